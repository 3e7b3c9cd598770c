noncomputable section
theorem l_327_x {d : Nat} (hd : 25 ≤ d) {w : eW} (hT : e_Has mLq w) (hH : e_Has mLr w) {N : Int} (hN : w 275 9 = N) (hNr : 0 ≤ N ∧ N ≤ 4000) {t : Int} (he : w 275 87 = t) (her : 0 ≤ t ∧ t ≤ N) : e_Ok 20 elay ecode eI d 327 (0, [(0, (1, 275))], [], w) (fun r w' => r = [] ∧ ∃ kd nv, tkP (w 281) N t kd (w' 275 86) (w' 275 87) nv ∧ kM kd nv (w' 275 84) (w' 275 85)) := by
  obtain ⟨d, rfl⟩ : ∃ e, d = e + 1 := ⟨d - 1, by omega⟩
  refine e_Ok.run (t' := (1, [(0, (1, 275))], [(1, 275)], w)) 1 rfl ?_
  refine e_Ok.getf (z := t) rfl rfl rfl rfl he (by omega) ?_
  refine e_Ok.run (t' := (7, [(2, (0, 1)), (1, (0, t)), (0, (1, 275))], [], w)) 3 rfl ?_
  have hL1 : ∀ (nn : Nat) (y1 : Int) (y2 : Int), (t ≤ y1 ∧ y1 ≤ N) ∧ (0 ≤ y2 ∧ y2 ≤ 1) ∧ (((y2 = 1 → skF (w 281) N y1 0 = skF (w 281) N t 0) ∧ (y2 = 0 → y1 = skF (w 281) N t 0))) → 2 * (4001 - y1) + y2 < nn → e_Ok 20 elay ecode eI (d + 1) 327 (7, [(0, (1, 275)), (1, (0, y1)), (2, (0, y2))], [], w) (fun r w' => r = [] ∧ ∃ kd nv, tkP (w 281) N t kd (w' 275 86) (w' 275 87) nv ∧ kM kd nv (w' 275 84) (w' 275 85)) := by
    intro nn
    induction nn with
    | zero => intro y1 y2 hj hm; obtain ⟨j3, j4, j5⟩ := hj; exfalso; omega
    | succ nn ih2 =>
      intro y1 y2 hj hm
      obtain ⟨j3, j4, j5⟩ := hj
      refine e_Ok.run (t' := (8, [(0, (1, 275)), (1, (0, y1)), (2, (0, y2))], [(0, y2)], w)) 1 rfl ?_
      refine e_Ok.if1 rfl (fun h6 => ?_) (fun h6 => ?_)
      · replace h6 : (y2 : Int) = 0 := h6
        refine e_Ok.run (t' := (87, [(0, (1, 275)), (1, (0, y1)), (2, (0, y2))], [(0, y1), (1, 275)], w)) 2 rfl ?_
        refine e_Ok.putf rfl rfl rfl rfl ?_
        generalize hw7 : e_up w 275 86 y1 = w7
        have f8 : e_fr mTq w w7 := e_fr.up (e_fr.refl w) hw7 (by unfold mTq; omega)
        refine e_Ok.run (t' := (93, [(0, (1, 275)), (1, (0, y1)), (2, (0, y2))], [(0, 1), (0, y1), (1, 275)], w7)) 3 rfl ?_
        refine e_Ok.add (z := y1 + 1) rfl (by omega) (by omega) ?_
        refine e_Ok.putf rfl rfl rfl rfl ?_
        generalize hw9 : e_up w7 275 87 (y1 + 1) = w9
        have f10 : e_fr mTq w w9 := e_fr.up f8 hw9 (by unfold mTq; omega)
        refine e_Ok.run (t' := (99, [(0, (1, 275)), (1, (0, y1)), (2, (0, y2))], [(0, 0), (1, 275)], w9)) 2 rfl ?_
        refine e_Ok.putf rfl rfl rfl rfl ?_
        generalize hw11 : e_up w9 275 85 0 = w11
        have f12 : e_fr mTq w w11 := e_fr.up f10 hw11 (by unfold mTq; omega)
        refine e_Ok.run (t' := (104, [(0, (1, 275)), (1, (0, y1)), (2, (0, y2))], [(0, y1), (1, 275)], w11)) 2 rfl ?_
        refine e_Ok.callV rfl (by omega) rfl rfl rfl rfl (l_326 (mLT_Tq f12 hT) (mLH_Tq f12 hH) ((by rw [← hw11]; exact (e_up_ne _ _ (Or.inr (by omega))).trans (by rw [← hw9]; exact (e_up_ne _ _ (Or.inr (by omega))).trans (by rw [← hw7]; exact (e_up_ne _ _ (Or.inr (by omega))).trans hN)))) hNr (by omega)) (fun r13 w14 h15 => ?_)
        obtain ⟨z16, rfl, rfl, q17⟩ := h15
        show e_Ok 20 elay ecode eI (d + 1) 327 (107, [(0, (1, 275)), (1, (0, y1)), (2, (0, y2))], [(0, z16)], w11) _
        refine e_Ok.run (t' := (108, [(3, (0, z16)), (0, (1, 275)), (1, (0, y1)), (2, (0, y2))], [], w11)) 1 rfl ?_
        refine e_Ok.run (t' := (110, [(3, (0, z16)), (0, (1, 275)), (1, (0, y1)), (2, (0, y2))], [(1, 275), (0, y1)], w11)) 2 rfl ?_
        refine e_Ok.getf (z := N) rfl rfl rfl rfl (by rw [← hw11]; exact (e_up_ne _ _ (Or.inr (by omega))).trans (by rw [← hw9]; exact (e_up_ne _ _ (Or.inr (by omega))).trans (by rw [← hw7]; exact (e_up_ne _ _ (Or.inr (by omega))).trans hN))) (by omega) ?_
        refine e_Ok.if2 rfl (fun h18 => ?_) (fun h18 => ?_)
        · replace h18 : (y1 : Int) ≠ N := h18
          refine e_Ok.run (t' := (130, [(3, (0, z16)), (0, (1, 275)), (1, (0, y1)), (2, (0, y2))], [(0, z16)], w11)) 1 rfl ?_
          refine e_Ok.callS rfl (by omega) rfl rfl (c_324_x (by omega)) (fun r19 w20 h21 => ?_)
          obtain ⟨z22, rfl, rfl, q23⟩ := h21
          obtain ⟨rfl, q23⟩ | ⟨rfl, q23⟩ := q23
          · show e_Ok 20 elay ecode eI (d + 1) 327 (133, [(3, (0, z16)), (0, (1, 275)), (1, (0, y1)), (2, (0, y2))], [(0, 1)], w11) _
            refine e_Ok.if1 rfl (fun h24 => ?_) (fun h24 => ?_)
            · replace h24 : (1 : Int) = 0 := h24
              exfalso; omega
            · replace h24 : (1 : Int) ≠ 0 := by have q : ¬ ((1 : Int) = 0) := h24; omega
              refine e_Ok.run (t' := (137, [(3, (0, z16)), (0, (1, 275)), (1, (0, y1)), (2, (0, y2))], [(1, 275)], w11)) 1 rfl ?_
              refine e_Ok.callV rfl (by omega) rfl rfl rfl rfl (e_Ok.both (l_328 (by omega) (mLT_Tq f12 hT) (mLH_Tq f12 hH) ((by rw [← hw11]; exact (e_up_ne _ _ (Or.inr (by omega))).trans (by rw [← hw9]; exact (e_up_ne _ _ (Or.inr (by omega))).trans (by rw [← hw7]; exact (e_up_ne _ _ (Or.inr (by omega))).trans hN)))) hNr (t := y1) (by rw [← hw11]; exact (e_up_ne _ _ (Or.inr (by omega))).trans (by rw [← hw9]; exact (e_up_ne _ _ (Or.inr (by omega))).trans (by rw [← hw7]; exact e_up_eq _ _ _ _))) (by omega) (by omega) (by rw [show w11 275 85 = 0 from (by rw [← hw11]; exact e_up_eq _ _ _ _)]; decide)) (l_328_x (by omega) (mLT_Tq f12 hT) (mLH_Tq f12 hH) ((by rw [← hw11]; exact (e_up_ne _ _ (Or.inr (by omega))).trans (by rw [← hw9]; exact (e_up_ne _ _ (Or.inr (by omega))).trans (by rw [← hw7]; exact (e_up_ne _ _ (Or.inr (by omega))).trans hN)))) hNr (t := y1) (by rw [← hw11]; exact (e_up_ne _ _ (Or.inr (by omega))).trans (by rw [← hw9]; exact (e_up_ne _ _ (Or.inr (by omega))).trans (by rw [← hw7]; exact e_up_eq _ _ _ _))) (by omega) (by omega) (by rw [show w11 275 85 = 0 from (by rw [← hw11]; exact e_up_eq _ _ _ _)]; decide))) (fun r25 w26 h27 => ?_)
              obtain ⟨⟨rfl, q28, q28s, q28t⟩, -, q28A, q28X⟩ := h27
              have e281 : w11 281 = w 281 := funext (fun i => f12 281 i (by unfold mTq; omega))
              have e81 : w11 281 y1 = w 281 y1 := congrFun e281 y1
              rw [e281] at q28X
              replace q28X := (show Hid _ from q28X)
              have f29 : e_fr mTq w w26 := e_fr.trans f12 (e_fr.mono q28 (fun c k q => by exact q))
              show e_Ok 20 elay ecode eI (d + 1) 327 (140, [(3, (0, z16)), (0, (1, 275)), (1, (0, y1)), (2, (0, y2))], [], w26) _
              refine e_Ok.run (t' := (162, [(3, (0, z16)), (0, (1, 275)), (1, (0, y1)), (2, (0, y2))], [], w26)) 1 rfl ?_
              refine e_Ok.rets rfl rfl ?_
              have hsk : y1 = skF (w 281) N t 0 := j5.2 (by omega)
              unfold tkP
              rcases q28X.out.2 with ⟨g1, g2⟩ | ⟨g1, ⟨g2, g3⟩ | ⟨k, g2, g3, g4⟩⟩
              · exact ⟨rfl, 3, 0, by rw [q28A]; exact ⟨hsk, Or.inr ⟨by omega, Or.inr (Or.inl ⟨by unfold ltB; omega, q28X.out.1, Or.inl ⟨g1, rfl⟩⟩)⟩⟩, Or.inr (Or.inr (Or.inr (Or.inl ⟨rfl, g2⟩)))⟩
              · exact ⟨rfl, 1, 0, by rw [q28A]; exact ⟨hsk, Or.inr ⟨by omega, Or.inr (Or.inl ⟨by unfold ltB; omega, q28X.out.1, Or.inr ⟨g1, Or.inl ⟨rfl, g3⟩⟩⟩)⟩⟩, Or.inr (Or.inl ⟨rfl, g2⟩)⟩
              · exact ⟨rfl, 21 + k, 0, by rw [q28A]; exact ⟨hsk, Or.inr ⟨by omega, Or.inr (Or.inl ⟨by unfold ltB; omega, q28X.out.1, Or.inr ⟨g1, Or.inr ⟨k, rfl, g2⟩⟩⟩)⟩⟩, Or.inr (Or.inr (Or.inr (Or.inr (Or.inr (by have kr := kwd_k g2; omega)))))⟩
          · show e_Ok 20 elay ecode eI (d + 1) 327 (133, [(3, (0, z16)), (0, (1, 275)), (1, (0, y1)), (2, (0, y2))], [(0, 0)], w11) _
            refine e_Ok.if1 rfl (fun h30 => ?_) (fun h30 => ?_)
            · replace h30 : (0 : Int) = 0 := h30
              refine e_Ok.run (t' := (144, [(3, (0, z16)), (0, (1, 275)), (1, (0, y1)), (2, (0, y2))], [(0, z16)], w11)) 1 rfl ?_
              refine e_Ok.callS rfl (by omega) rfl rfl (c_325_x (by omega)) (fun r31 w32 h33 => ?_)
              obtain ⟨z34, rfl, rfl, q35⟩ := h33
              obtain ⟨rfl, q35⟩ | ⟨rfl, q35⟩ := q35
              · show e_Ok 20 elay ecode eI (d + 1) 327 (147, [(3, (0, z16)), (0, (1, 275)), (1, (0, y1)), (2, (0, y2))], [(0, 1)], w11) _
                refine e_Ok.if1 rfl (fun h36 => ?_) (fun h36 => ?_)
                · replace h36 : (1 : Int) = 0 := h36
                  exfalso; omega
                · replace h36 : (1 : Int) ≠ 0 := by have q : ¬ ((1 : Int) = 0) := h36; omega
                  refine e_Ok.run (t' := (151, [(3, (0, z16)), (0, (1, 275)), (1, (0, y1)), (2, (0, y2))], [(1, 275)], w11)) 1 rfl ?_
                  refine e_Ok.callV rfl (by omega) rfl rfl rfl rfl (e_Ok.both (l_329 (by omega) (mLT_Tq f12 hT) (mLH_Tq f12 hH) ((by rw [← hw11]; exact (e_up_ne _ _ (Or.inr (by omega))).trans (by rw [← hw9]; exact (e_up_ne _ _ (Or.inr (by omega))).trans (by rw [← hw7]; exact (e_up_ne _ _ (Or.inr (by omega))).trans hN)))) hNr (t := y1) (by rw [← hw11]; exact (e_up_ne _ _ (Or.inr (by omega))).trans (by rw [← hw9]; exact (e_up_ne _ _ (Or.inr (by omega))).trans (by rw [← hw7]; exact e_up_eq _ _ _ _))) (by omega) (by omega)) (l_329_x (by omega) (mLT_Tq f12 hT) (mLH_Tq f12 hH) ((by rw [← hw11]; exact (e_up_ne _ _ (Or.inr (by omega))).trans (by rw [← hw9]; exact (e_up_ne _ _ (Or.inr (by omega))).trans (by rw [← hw7]; exact (e_up_ne _ _ (Or.inr (by omega))).trans hN)))) hNr (t := y1) (by rw [← hw11]; exact (e_up_ne _ _ (Or.inr (by omega))).trans (by rw [← hw9]; exact (e_up_ne _ _ (Or.inr (by omega))).trans (by rw [← hw7]; exact e_up_eq _ _ _ _))) (by omega) (by omega))) (fun r37 w38 h40 => ?_)
                  obtain ⟨⟨rfl, q41, q41s, q41t⟩, -, q41A, q41X⟩ := h40
                  have e281 : w11 281 = w 281 := funext (fun i => f12 281 i (by unfold mTq; omega))
                  have e81 : w11 281 y1 = w 281 y1 := congrFun e281 y1
                  rw [e281] at q41X
                  replace q41X := (show Hid _ from q41X)
                  have f42 : e_fr mTq w w38 := e_fr.trans f12 (e_fr.mono q41 (fun c k q => by exact q))
                  show e_Ok 20 elay ecode eI (d + 1) 327 (154, [(3, (0, z16)), (0, (1, 275)), (1, (0, y1)), (2, (0, y2))], [], w38) _
                  refine e_Ok.run (t' := (162, [(3, (0, z16)), (0, (1, 275)), (1, (0, y1)), (2, (0, y2))], [], w38)) 1 rfl ?_
                  refine e_Ok.rets rfl rfl ?_
                  have hsk : y1 = skF (w 281) N t 0 := j5.2 (by omega)
                  unfold tkP
                  rcases q41X.out.2 with ⟨g1, g2⟩ | ⟨g1, g2, g3⟩
                  · exact ⟨rfl, 3, 0, by rw [q41A]; exact ⟨hsk, Or.inr ⟨by omega, Or.inl ⟨by unfold dgB; omega, q41X.out.1, Or.inl ⟨g1, rfl⟩⟩⟩⟩, Or.inr (Or.inr (Or.inr (Or.inl ⟨rfl, g2⟩)))⟩
                  · exact ⟨rfl, 2, _, by rw [q41A]; exact ⟨hsk, Or.inr ⟨by omega, Or.inl ⟨by unfold dgB; omega, q41X.out.1, Or.inr ⟨g1, rfl, rfl⟩⟩⟩⟩, Or.inr (Or.inr (Or.inl ⟨rfl, g2, g3⟩))⟩
              · show e_Ok 20 elay ecode eI (d + 1) 327 (147, [(3, (0, z16)), (0, (1, 275)), (1, (0, y1)), (2, (0, y2))], [(0, 0)], w11) _
                refine e_Ok.if1 rfl (fun h43 => ?_) (fun h43 => ?_)
                · replace h43 : (0 : Int) = 0 := h43
                  refine e_Ok.run (t' := (159, [(3, (0, z16)), (0, (1, 275)), (1, (0, y1)), (2, (0, y2))], [(0, z16), (1, 275)], w11)) 2 rfl ?_
                  refine e_Ok.callV rfl (by omega) rfl rfl rfl rfl (e_Ok.both (l_330 (by omega) (mLT_Tq f12 hT) (mLH_Tq f12 hH) ((by rw [← hw11]; exact (e_up_ne _ _ (Or.inr (by omega))).trans (by rw [← hw9]; exact (e_up_ne _ _ (Or.inr (by omega))).trans (by rw [← hw7]; exact (e_up_ne _ _ (Or.inr (by omega))).trans hN)))) hNr (t := y1) (by rw [← hw11]; exact (e_up_ne _ _ (Or.inr (by omega))).trans (by rw [← hw9]; exact (e_up_ne _ _ (Or.inr (by omega))).trans (by rw [← hw7]; exact e_up_eq _ _ _ _))) (by rw [← hw11]; exact (e_up_ne _ _ (Or.inr (by omega))).trans (by rw [← hw9]; exact e_up_eq _ _ _ _)) (by omega) (by omega)) (l_330_x (by omega) (mLT_Tq f12 hT) (mLH_Tq f12 hH) ((by rw [← hw11]; exact (e_up_ne _ _ (Or.inr (by omega))).trans (by rw [← hw9]; exact (e_up_ne _ _ (Or.inr (by omega))).trans (by rw [← hw7]; exact (e_up_ne _ _ (Or.inr (by omega))).trans hN)))) hNr (t := y1) (by rw [← hw11]; exact (e_up_ne _ _ (Or.inr (by omega))).trans (by rw [← hw9]; exact (e_up_ne _ _ (Or.inr (by omega))).trans (by rw [← hw7]; exact e_up_eq _ _ _ _))) (by rw [← hw11]; exact (e_up_ne _ _ (Or.inr (by omega))).trans (by rw [← hw9]; exact e_up_eq _ _ _ _)) (by omega) (by omega))) (fun r44 w45 h46 => ?_)
                  obtain ⟨⟨rfl, q47, q47s, q47t⟩, -, q47A, q47X⟩ := h46
                  have e281 : w11 281 = w 281 := funext (fun i => f12 281 i (by unfold mTq; omega))
                  have e81 : w11 281 y1 = w 281 y1 := congrFun e281 y1
                  rw [e281] at q47X
                  replace q47X := (show Hid _ from q47X)
                  have f48 : e_fr mTq w w45 := e_fr.trans f12 (e_fr.mono q47 (fun c k q => by exact q))
                  show e_Ok 20 elay ecode eI (d + 1) 327 (162, [(3, (0, z16)), (0, (1, 275)), (1, (0, y1)), (2, (0, y2))], [], w45) _
                  refine e_Ok.rets rfl rfl ?_
                  have hsk : y1 = skF (w 281) N t 0 := j5.2 (by omega)
                  unfold tkP
                  have eb : z16 = w 281 y1 := by omega
                  rw [eb] at q47X
                  exact ⟨rfl, _, 0, by rw [q47A]; exact ⟨hsk, Or.inr ⟨by omega, Or.inr (Or.inr ⟨by unfold dgB; omega, by unfold ltB; omega, rfl, q47X.out.1⟩)⟩⟩, q47X.out.2⟩
                · replace h43 : (0 : Int) ≠ 0 := by have q : ¬ ((0 : Int) = 0) := h43; omega
                  exfalso; omega
            · replace h30 : (0 : Int) ≠ 0 := by have q : ¬ ((0 : Int) = 0) := h30; omega
              exfalso; omega
        · replace h18 : (y1 : Int) = N := by have q : ¬ ((y1 : Int) ≠ N) := h18; omega
          refine e_Ok.run (t' := (118, [(3, (0, z16)), (0, (1, 275)), (1, (0, y1)), (2, (0, y2))], [(0, 0), (1, 275)], w11)) 2 rfl ?_
          refine e_Ok.putf rfl rfl rfl rfl ?_
          generalize hw49 : e_up w11 275 84 0 = w49
          have f50 : e_fr mTq w w49 := e_fr.up f12 hw49 (by unfold mTq; omega)
          refine e_Ok.run (t' := (123, [(3, (0, z16)), (0, (1, 275)), (1, (0, y1)), (2, (0, y2))], [(0, y1), (1, 275)], w49)) 2 rfl ?_
          refine e_Ok.putf rfl rfl rfl rfl ?_
          generalize hw51 : e_up w49 275 87 y1 = w51
          have f52 : e_fr mTq w w51 := e_fr.up f50 hw51 (by unfold mTq; omega)
          refine e_Ok.run (t' := (162, [(3, (0, z16)), (0, (1, 275)), (1, (0, y1)), (2, (0, y2))], [], w51)) 1 rfl ?_
          refine e_Ok.rets rfl rfl ?_
          have hsk : y1 = skF (w 281) N t 0 := j5.2 (by omega)
          have et86 : w51 275 86 = y1 := (by rw [← hw51]; exact (e_up_ne _ _ (Or.inr (by omega))).trans (by rw [← hw49]; exact (e_up_ne _ _ (Or.inr (by omega))).trans (by rw [← hw11]; exact (e_up_ne _ _ (Or.inr (by omega))).trans (by rw [← hw9]; exact (e_up_ne _ _ (Or.inr (by omega))).trans (by rw [← hw7]; exact e_up_eq _ _ _ _)))))
          have et87 : w51 275 87 = y1 := (by rw [← hw51]; exact e_up_eq _ _ _ _)
          have et84 : w51 275 84 = 0 := (by rw [← hw51]; exact (e_up_ne _ _ (Or.inr (by omega))).trans (by rw [← hw49]; exact e_up_eq _ _ _ _))
          have et85 : w51 275 85 = 0 := (by rw [← hw51]; exact (e_up_ne _ _ (Or.inr (by omega))).trans (by rw [← hw49]; exact (e_up_ne _ _ (Or.inr (by omega))).trans (by rw [← hw11]; exact e_up_eq _ _ _ _)))
          exact ⟨rfl, 0, 0, by unfold tkP; rw [et86, et87]; exact ⟨hsk, Or.inl ⟨by omega, rfl, rfl⟩⟩, Or.inl ⟨rfl, et84⟩⟩
      · replace h6 : (y2 : Int) ≠ 0 := by have q : ¬ ((y2 : Int) = 0) := h6; omega
        refine e_Ok.run (t' := (13, [(0, (1, 275)), (1, (0, y1)), (2, (0, y2))], [(1, 275), (0, y1)], w)) 2 rfl ?_
        refine e_Ok.getf (z := N) rfl rfl rfl rfl hN (by omega) ?_
        refine e_Ok.if2 rfl (fun h53 => ?_) (fun h53 => ?_)
        · replace h53 : (y1 : Int) ≥ N := h53
          refine e_Ok.run (t' := (47, [(0, (1, 275)), (1, (0, y1)), (2, (0, y2))], [(0, y1), (1, 275)], w)) 2 rfl ?_
          refine e_Ok.callV rfl (by omega) rfl rfl rfl rfl (l_326 hT hH hN hNr (by omega)) (fun r54 w55 h56 => ?_)
          obtain ⟨z57, rfl, rfl, q58⟩ := h56
          show e_Ok 20 elay ecode eI (d + 1) 327 (50, [(0, (1, 275)), (1, (0, y1)), (2, (0, y2))], [(0, z57)], w) _
          refine e_Ok.run (t' := (52, [(0, (1, 275)), (1, (0, y1)), (2, (0, y2))], [(0, 35), (0, z57)], w)) 1 rfl ?_
          refine e_Ok.if2 rfl (fun h59 => ?_) (fun h59 => ?_)
          · replace h59 : (z57 : Int) ≠ 35 := h59
            refine e_Ok.run (t' := (7, [(2, (0, 0)), (0, (1, 275)), (1, (0, y1))], [], w)) 3 rfl ?_
            refine e_Ok.sub eAlk (e_sub_of rfl ?_) (ih2 y1 0 ⟨by omega, by omega, (by first | exact ⟨fun _ => (skF_b0 (by omega) (by omega)).symm.trans (j5.1 (by omega)), fun g => by omega⟩ | exact ⟨fun g => by omega, fun _ => (by have g9 := j5.1 (by omega); by_cases gN : N ≤ y1; (rw [skF_end gN] at g9; exact g9); (rw [skF_st (by omega) (by omega) (by omega)] at g9; exact g9))⟩)⟩ (by omega))
            exact ⟨rfl, rfl, rfl, trivial⟩
          · replace h59 : (z57 : Int) = 35 := by have q : ¬ ((z57 : Int) ≠ 35) := h59; omega
            have hL60 : ∀ (nn : Nat) (z1 : Int), (y1 ≤ z1 ∧ z1 ≤ N) ∧ ((y1 < z1 ∨ (z1 = y1 ∧ w 281 z1 = 35))) ∧ skF (w 281) N z1 1 = skF (w 281) N t 0 → 4001 - z1 < nn → e_Ok 20 elay ecode eI (d + 1) 327 (55, [(0, (1, 275)), (1, (0, z1)), (2, (0, y2))], [], w) (fun r w' => r = [] ∧ ∃ kd nv, tkP (w 281) N t kd (w' 275 86) (w' 275 87) nv ∧ kM kd nv (w' 275 84) (w' 275 85)) := by
              intro nn
              induction nn with
              | zero => intro z1 hj hm; obtain ⟨j62, j63, j64⟩ := hj; exfalso; omega
              | succ nn ih61 =>
                intro z1 hj hm
                obtain ⟨j62, j63, j64⟩ := hj
                refine e_Ok.run (t' := (57, [(0, (1, 275)), (1, (0, z1)), (2, (0, y2))], [(1, 275), (0, z1)], w)) 2 rfl ?_
                refine e_Ok.getf (z := N) rfl rfl rfl rfl hN (by omega) ?_
                refine e_Ok.if2 rfl (fun h65 => ?_) (fun h65 => ?_)
                · replace h65 : (z1 : Int) ≥ N := h65
                  refine e_Ok.sub eAlk (e_sub_of rfl ?_) (ih2 z1 y2 ⟨by omega, by omega, (by first | exact ⟨fun _ => (skF_b0 (by omega) (by omega)).symm.trans (j5.1 (by omega)), fun g => by omega⟩ | exact ⟨fun _ => (skF_ce (by omega)).symm.trans j64, fun g => by omega⟩ | exact ⟨fun g => by omega, fun _ => (by have g9 := j5.1 (by omega); by_cases gN : N ≤ y1; (rw [skF_end gN] at g9; exact g9); (rw [skF_st (by omega) (by omega) (by omega)] at g9; exact g9))⟩)⟩ (by omega))
                  exact ⟨rfl, rfl, rfl, trivial⟩
                · replace h65 : (z1 : Int) < N := by have q : ¬ ((z1 : Int) ≥ N) := h65; omega
                  refine e_Ok.run (t' := (64, [(0, (1, 275)), (1, (0, z1)), (2, (0, y2))], [(1, 275)], w)) 1 rfl ?_
                  refine e_Ok.getr (z := 281) rfl rfl rfl rfl (e_Has.eq hT rfl) (by omega) ?_
                  refine e_Ok.run (t' := (68, [(0, (1, 275)), (1, (0, z1)), (2, (0, y2))], [(0, z1), (1, 281)], w)) 1 rfl ?_
                  have h66 := (e_Has.get hH (c := 281) (k := z1) (lo := (-128)) (hi := 127) rfl (by decide))
                  refine e_Ok.ald (z := w 281 z1) rfl rfl rfl (by omega) rfl (by omega) ?_
                  refine e_Ok.run (t' := (71, [(0, (1, 275)), (1, (0, z1)), (2, (0, y2))], [(0, 10), (0, w 281 z1)], w)) 1 rfl ?_
                  refine e_Ok.if2 rfl (fun h67 => ?_) (fun h67 => ?_)
                  · replace h67 : (w 281 z1 : Int) = 10 := h67
                    refine e_Ok.sub eAlk (e_sub_of rfl ?_) (ih2 z1 y2 ⟨by omega, by omega, (by first | exact ⟨fun _ => (skF_b0 (by omega) (by omega)).symm.trans (j5.1 (by omega)), fun g => by omega⟩ | exact ⟨fun _ => (skF_ce (by omega)).symm.trans j64, fun g => by omega⟩ | exact ⟨fun g => by omega, fun _ => (by have g9 := j5.1 (by omega); by_cases gN : N ≤ y1; (rw [skF_end gN] at g9; exact g9); (rw [skF_st (by omega) (by omega) (by omega)] at g9; exact g9))⟩)⟩ (by omega))
                    exact ⟨rfl, rfl, rfl, trivial⟩
                  · replace h67 : (w 281 z1 : Int) ≠ 10 := by have q : ¬ ((w 281 z1 : Int) = 10) := h67; omega
                    refine e_Ok.inc (z := z1 + 1) rfl rfl (by omega) (by omega) ?_
                    show e_Ok 20 elay ecode eI (d + 1) 327 (77, [(1, (0, z1 + 1)), (0, (1, 275)), (2, (0, y2))], [], w) _
                    refine e_Ok.run (t' := (55, [(1, (0, z1 + 1)), (0, (1, 275)), (2, (0, y2))], [], w)) 1 rfl ?_
                    refine e_Ok.sub eAlk (e_sub_of rfl ?_) (ih61 (z1 + 1) ⟨by omega, (Or.inl (by omega)), ((skF_c1 (by omega) (by omega)).symm.trans j64)⟩ (by omega))
                    exact ⟨rfl, rfl, rfl, trivial⟩
            refine e_Ok.sub eAlk (e_sub_of rfl ?_) (hL60 (4001 + 1 : Int).toNat y1 ⟨by omega, (Or.inr ⟨rfl, by omega⟩), ((skF_cm (by omega) (by omega)).trans ((skF_cm (by omega) (by omega)).symm.trans (j5.1 (by omega))))⟩ (by omega))
            exact ⟨rfl, rfl, rfl, trivial⟩
        · replace h53 : (y1 : Int) < N := by have q : ¬ ((y1 : Int) ≥ N) := h53; omega
          refine e_Ok.run (t' := (20, [(0, (1, 275)), (1, (0, y1)), (2, (0, y2))], [(1, 275)], w)) 1 rfl ?_
          refine e_Ok.getr (z := 281) rfl rfl rfl rfl (e_Has.eq hT rfl) (by omega) ?_
          refine e_Ok.run (t' := (24, [(0, (1, 275)), (1, (0, y1)), (2, (0, y2))], [(0, y1), (1, 281)], w)) 1 rfl ?_
          have h68 := (e_Has.get hH (c := 281) (k := y1) (lo := (-128)) (hi := 127) rfl (by decide))
          refine e_Ok.ald (z := w 281 y1) rfl rfl rfl (by omega) rfl (by omega) ?_
          refine e_Ok.if1 rfl (fun h69 => ?_) (fun h69 => ?_)
          · replace h69 : (w 281 y1 : Int) < 0 := h69
            refine e_Ok.run (t' := (47, [(0, (1, 275)), (1, (0, y1)), (2, (0, y2))], [(0, y1), (1, 275)], w)) 2 rfl ?_
            refine e_Ok.callV rfl (by omega) rfl rfl rfl rfl (l_326 hT hH hN hNr (by omega)) (fun r70 w71 h72 => ?_)
            obtain ⟨z73, rfl, rfl, q74⟩ := h72
            show e_Ok 20 elay ecode eI (d + 1) 327 (50, [(0, (1, 275)), (1, (0, y1)), (2, (0, y2))], [(0, z73)], w) _
            refine e_Ok.run (t' := (52, [(0, (1, 275)), (1, (0, y1)), (2, (0, y2))], [(0, 35), (0, z73)], w)) 1 rfl ?_
            refine e_Ok.if2 rfl (fun h75 => ?_) (fun h75 => ?_)
            · replace h75 : (z73 : Int) ≠ 35 := h75
              refine e_Ok.run (t' := (7, [(2, (0, 0)), (0, (1, 275)), (1, (0, y1))], [], w)) 3 rfl ?_
              refine e_Ok.sub eAlk (e_sub_of rfl ?_) (ih2 y1 0 ⟨by omega, by omega, (by first | exact ⟨fun _ => (skF_b0 (by omega) (by omega)).symm.trans (j5.1 (by omega)), fun g => by omega⟩ | exact ⟨fun g => by omega, fun _ => (by have g9 := j5.1 (by omega); by_cases gN : N ≤ y1; (rw [skF_end gN] at g9; exact g9); (rw [skF_st (by omega) (by omega) (by omega)] at g9; exact g9))⟩)⟩ (by omega))
              exact ⟨rfl, rfl, rfl, trivial⟩
            · replace h75 : (z73 : Int) = 35 := by have q : ¬ ((z73 : Int) ≠ 35) := h75; omega
              have hL76 : ∀ (nn : Nat) (z1 : Int), (y1 ≤ z1 ∧ z1 ≤ N) ∧ ((y1 < z1 ∨ (z1 = y1 ∧ w 281 z1 = 35))) ∧ skF (w 281) N z1 1 = skF (w 281) N t 0 → 4001 - z1 < nn → e_Ok 20 elay ecode eI (d + 1) 327 (55, [(0, (1, 275)), (1, (0, z1)), (2, (0, y2))], [], w) (fun r w' => r = [] ∧ ∃ kd nv, tkP (w 281) N t kd (w' 275 86) (w' 275 87) nv ∧ kM kd nv (w' 275 84) (w' 275 85)) := by
                intro nn
                induction nn with
                | zero => intro z1 hj hm; obtain ⟨j78, j79, j80⟩ := hj; exfalso; omega
                | succ nn ih77 =>
                  intro z1 hj hm
                  obtain ⟨j78, j79, j80⟩ := hj
                  refine e_Ok.run (t' := (57, [(0, (1, 275)), (1, (0, z1)), (2, (0, y2))], [(1, 275), (0, z1)], w)) 2 rfl ?_
                  refine e_Ok.getf (z := N) rfl rfl rfl rfl hN (by omega) ?_
                  refine e_Ok.if2 rfl (fun h81 => ?_) (fun h81 => ?_)
                  · replace h81 : (z1 : Int) ≥ N := h81
                    refine e_Ok.sub eAlk (e_sub_of rfl ?_) (ih2 z1 y2 ⟨by omega, by omega, (by first | exact ⟨fun _ => (skF_b0 (by omega) (by omega)).symm.trans (j5.1 (by omega)), fun g => by omega⟩ | exact ⟨fun _ => (skF_ce (by omega)).symm.trans j80, fun g => by omega⟩ | exact ⟨fun g => by omega, fun _ => (by have g9 := j5.1 (by omega); by_cases gN : N ≤ y1; (rw [skF_end gN] at g9; exact g9); (rw [skF_st (by omega) (by omega) (by omega)] at g9; exact g9))⟩)⟩ (by omega))
                    exact ⟨rfl, rfl, rfl, trivial⟩
                  · replace h81 : (z1 : Int) < N := by have q : ¬ ((z1 : Int) ≥ N) := h81; omega
                    refine e_Ok.run (t' := (64, [(0, (1, 275)), (1, (0, z1)), (2, (0, y2))], [(1, 275)], w)) 1 rfl ?_
                    refine e_Ok.getr (z := 281) rfl rfl rfl rfl (e_Has.eq hT rfl) (by omega) ?_
                    refine e_Ok.run (t' := (68, [(0, (1, 275)), (1, (0, z1)), (2, (0, y2))], [(0, z1), (1, 281)], w)) 1 rfl ?_
                    have h82 := (e_Has.get hH (c := 281) (k := z1) (lo := (-128)) (hi := 127) rfl (by decide))
                    refine e_Ok.ald (z := w 281 z1) rfl rfl rfl (by omega) rfl (by omega) ?_
                    refine e_Ok.run (t' := (71, [(0, (1, 275)), (1, (0, z1)), (2, (0, y2))], [(0, 10), (0, w 281 z1)], w)) 1 rfl ?_
                    refine e_Ok.if2 rfl (fun h83 => ?_) (fun h83 => ?_)
                    · replace h83 : (w 281 z1 : Int) = 10 := h83
                      refine e_Ok.sub eAlk (e_sub_of rfl ?_) (ih2 z1 y2 ⟨by omega, by omega, (by first | exact ⟨fun _ => (skF_b0 (by omega) (by omega)).symm.trans (j5.1 (by omega)), fun g => by omega⟩ | exact ⟨fun _ => (skF_ce (by omega)).symm.trans j80, fun g => by omega⟩ | exact ⟨fun g => by omega, fun _ => (by have g9 := j5.1 (by omega); by_cases gN : N ≤ y1; (rw [skF_end gN] at g9; exact g9); (rw [skF_st (by omega) (by omega) (by omega)] at g9; exact g9))⟩)⟩ (by omega))
                      exact ⟨rfl, rfl, rfl, trivial⟩
                    · replace h83 : (w 281 z1 : Int) ≠ 10 := by have q : ¬ ((w 281 z1 : Int) = 10) := h83; omega
                      refine e_Ok.inc (z := z1 + 1) rfl rfl (by omega) (by omega) ?_
                      show e_Ok 20 elay ecode eI (d + 1) 327 (77, [(1, (0, z1 + 1)), (0, (1, 275)), (2, (0, y2))], [], w) _
                      refine e_Ok.run (t' := (55, [(1, (0, z1 + 1)), (0, (1, 275)), (2, (0, y2))], [], w)) 1 rfl ?_
                      refine e_Ok.sub eAlk (e_sub_of rfl ?_) (ih77 (z1 + 1) ⟨by omega, (Or.inl (by omega)), ((skF_c1 (by omega) (by omega)).symm.trans j80)⟩ (by omega))
                      exact ⟨rfl, rfl, rfl, trivial⟩
              refine e_Ok.sub eAlk (e_sub_of rfl ?_) (hL76 (4001 + 1 : Int).toNat y1 ⟨by omega, (Or.inr ⟨rfl, by omega⟩), ((skF_cm (by omega) (by omega)).trans ((skF_cm (by omega) (by omega)).symm.trans (j5.1 (by omega))))⟩ (by omega))
              exact ⟨rfl, rfl, rfl, trivial⟩
          · replace h69 : (w 281 y1 : Int) ≥ 0 := by have q : ¬ ((w 281 y1 : Int) < 0) := h69; omega
            refine e_Ok.run (t' := (29, [(0, (1, 275)), (1, (0, y1)), (2, (0, y2))], [(1, 275)], w)) 1 rfl ?_
            refine e_Ok.getr (z := 281) rfl rfl rfl rfl (e_Has.eq hT rfl) (by omega) ?_
            refine e_Ok.run (t' := (33, [(0, (1, 275)), (1, (0, y1)), (2, (0, y2))], [(0, y1), (1, 281)], w)) 1 rfl ?_
            refine e_Ok.ald (z := w 281 y1) rfl rfl rfl (by omega) rfl (by omega) ?_
            refine e_Ok.run (t' := (36, [(0, (1, 275)), (1, (0, y1)), (2, (0, y2))], [(0, 32), (0, w 281 y1)], w)) 1 rfl ?_
            refine e_Ok.if2 rfl (fun h84 => ?_) (fun h84 => ?_)
            · replace h84 : (w 281 y1 : Int) > 32 := h84
              refine e_Ok.run (t' := (47, [(0, (1, 275)), (1, (0, y1)), (2, (0, y2))], [(0, y1), (1, 275)], w)) 2 rfl ?_
              refine e_Ok.callV rfl (by omega) rfl rfl rfl rfl (l_326 hT hH hN hNr (by omega)) (fun r85 w86 h87 => ?_)
              obtain ⟨z88, rfl, rfl, q89⟩ := h87
              show e_Ok 20 elay ecode eI (d + 1) 327 (50, [(0, (1, 275)), (1, (0, y1)), (2, (0, y2))], [(0, z88)], w) _
              refine e_Ok.run (t' := (52, [(0, (1, 275)), (1, (0, y1)), (2, (0, y2))], [(0, 35), (0, z88)], w)) 1 rfl ?_
              refine e_Ok.if2 rfl (fun h90 => ?_) (fun h90 => ?_)
              · replace h90 : (z88 : Int) ≠ 35 := h90
                refine e_Ok.run (t' := (7, [(2, (0, 0)), (0, (1, 275)), (1, (0, y1))], [], w)) 3 rfl ?_
                refine e_Ok.sub eAlk (e_sub_of rfl ?_) (ih2 y1 0 ⟨by omega, by omega, (by first | exact ⟨fun _ => (skF_b0 (by omega) (by omega)).symm.trans (j5.1 (by omega)), fun g => by omega⟩ | exact ⟨fun g => by omega, fun _ => (by have g9 := j5.1 (by omega); by_cases gN : N ≤ y1; (rw [skF_end gN] at g9; exact g9); (rw [skF_st (by omega) (by omega) (by omega)] at g9; exact g9))⟩)⟩ (by omega))
                exact ⟨rfl, rfl, rfl, trivial⟩
              · replace h90 : (z88 : Int) = 35 := by have q : ¬ ((z88 : Int) ≠ 35) := h90; omega
                have hL91 : ∀ (nn : Nat) (z1 : Int), (y1 ≤ z1 ∧ z1 ≤ N) ∧ ((y1 < z1 ∨ (z1 = y1 ∧ w 281 z1 = 35))) ∧ skF (w 281) N z1 1 = skF (w 281) N t 0 → 4001 - z1 < nn → e_Ok 20 elay ecode eI (d + 1) 327 (55, [(0, (1, 275)), (1, (0, z1)), (2, (0, y2))], [], w) (fun r w' => r = [] ∧ ∃ kd nv, tkP (w 281) N t kd (w' 275 86) (w' 275 87) nv ∧ kM kd nv (w' 275 84) (w' 275 85)) := by
                  intro nn
                  induction nn with
                  | zero => intro z1 hj hm; obtain ⟨j93, j94, j95⟩ := hj; exfalso; omega
                  | succ nn ih92 =>
                    intro z1 hj hm
                    obtain ⟨j93, j94, j95⟩ := hj
                    refine e_Ok.run (t' := (57, [(0, (1, 275)), (1, (0, z1)), (2, (0, y2))], [(1, 275), (0, z1)], w)) 2 rfl ?_
                    refine e_Ok.getf (z := N) rfl rfl rfl rfl hN (by omega) ?_
                    refine e_Ok.if2 rfl (fun h101 => ?_) (fun h101 => ?_)
                    · replace h101 : (z1 : Int) ≥ N := h101
                      refine e_Ok.sub eAlk (e_sub_of rfl ?_) (ih2 z1 y2 ⟨by omega, by omega, (by first | exact ⟨fun _ => (skF_b0 (by omega) (by omega)).symm.trans (j5.1 (by omega)), fun g => by omega⟩ | exact ⟨fun _ => (skF_ce (by omega)).symm.trans j95, fun g => by omega⟩ | exact ⟨fun g => by omega, fun _ => (by have g9 := j5.1 (by omega); by_cases gN : N ≤ y1; (rw [skF_end gN] at g9; exact g9); (rw [skF_st (by omega) (by omega) (by omega)] at g9; exact g9))⟩)⟩ (by omega))
                      exact ⟨rfl, rfl, rfl, trivial⟩
                    · replace h101 : (z1 : Int) < N := by have q : ¬ ((z1 : Int) ≥ N) := h101; omega
                      refine e_Ok.run (t' := (64, [(0, (1, 275)), (1, (0, z1)), (2, (0, y2))], [(1, 275)], w)) 1 rfl ?_
                      refine e_Ok.getr (z := 281) rfl rfl rfl rfl (e_Has.eq hT rfl) (by omega) ?_
                      refine e_Ok.run (t' := (68, [(0, (1, 275)), (1, (0, z1)), (2, (0, y2))], [(0, z1), (1, 281)], w)) 1 rfl ?_
                      have h103 := (e_Has.get hH (c := 281) (k := z1) (lo := (-128)) (hi := 127) rfl (by decide))
                      refine e_Ok.ald (z := w 281 z1) rfl rfl rfl (by omega) rfl (by omega) ?_
                      refine e_Ok.run (t' := (71, [(0, (1, 275)), (1, (0, z1)), (2, (0, y2))], [(0, 10), (0, w 281 z1)], w)) 1 rfl ?_
                      refine e_Ok.if2 rfl (fun h104 => ?_) (fun h104 => ?_)
                      · replace h104 : (w 281 z1 : Int) = 10 := h104
                        refine e_Ok.sub eAlk (e_sub_of rfl ?_) (ih2 z1 y2 ⟨by omega, by omega, (by first | exact ⟨fun _ => (skF_b0 (by omega) (by omega)).symm.trans (j5.1 (by omega)), fun g => by omega⟩ | exact ⟨fun _ => (skF_ce (by omega)).symm.trans j95, fun g => by omega⟩ | exact ⟨fun g => by omega, fun _ => (by have g9 := j5.1 (by omega); by_cases gN : N ≤ y1; (rw [skF_end gN] at g9; exact g9); (rw [skF_st (by omega) (by omega) (by omega)] at g9; exact g9))⟩)⟩ (by omega))
                        exact ⟨rfl, rfl, rfl, trivial⟩
                      · replace h104 : (w 281 z1 : Int) ≠ 10 := by have q : ¬ ((w 281 z1 : Int) = 10) := h104; omega
                        refine e_Ok.inc (z := z1 + 1) rfl rfl (by omega) (by omega) ?_
                        show e_Ok 20 elay ecode eI (d + 1) 327 (77, [(1, (0, z1 + 1)), (0, (1, 275)), (2, (0, y2))], [], w) _
                        refine e_Ok.run (t' := (55, [(1, (0, z1 + 1)), (0, (1, 275)), (2, (0, y2))], [], w)) 1 rfl ?_
                        refine e_Ok.sub eAlk (e_sub_of rfl ?_) (ih92 (z1 + 1) ⟨by omega, (Or.inl (by omega)), ((skF_c1 (by omega) (by omega)).symm.trans j95)⟩ (by omega))
                        exact ⟨rfl, rfl, rfl, trivial⟩
                refine e_Ok.sub eAlk (e_sub_of rfl ?_) (hL91 (4001 + 1 : Int).toNat y1 ⟨by omega, (Or.inr ⟨rfl, by omega⟩), ((skF_cm (by omega) (by omega)).trans ((skF_cm (by omega) (by omega)).symm.trans (j5.1 (by omega))))⟩ (by omega))
                exact ⟨rfl, rfl, rfl, trivial⟩
            · replace h84 : (w 281 y1 : Int) ≤ 32 := by have q : ¬ ((w 281 y1 : Int) > 32) := h84; omega
              refine e_Ok.inc (z := y1 + 1) rfl rfl (by omega) (by omega) ?_
              show e_Ok 20 elay ecode eI (d + 1) 327 (42, [(1, (0, y1 + 1)), (0, (1, 275)), (2, (0, y2))], [], w) _
              refine e_Ok.run (t' := (7, [(1, (0, y1 + 1)), (0, (1, 275)), (2, (0, y2))], [], w)) 1 rfl ?_
              refine e_Ok.sub eAlk (e_sub_of rfl ?_) (ih2 (y1 + 1) y2 ⟨by omega, by omega, (by first | exact ⟨fun _ => (skF_b0 (by omega) (by omega)).symm.trans (j5.1 (by omega)), fun g => by omega⟩ | exact ⟨fun g => by omega, fun _ => (by have g9 := j5.1 (by omega); by_cases gN : N ≤ y1; (rw [skF_end gN] at g9; exact g9); (rw [skF_st (by omega) (by omega) (by omega)] at g9; exact g9))⟩)⟩ (by omega))
              exact ⟨rfl, rfl, rfl, trivial⟩
  refine e_Ok.sub eAlk (e_sub_of rfl ?_) (hL1 (8003 + 1 : Int).toNat t 1 ⟨by omega, by omega, ⟨fun _ => rfl, fun g => by omega⟩⟩ (by omega))
  exact ⟨rfl, rfl, rfl, trivial⟩
end
