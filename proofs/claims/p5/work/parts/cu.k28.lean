noncomputable section
/-! the class: a tick -/
section Kt
variable {w w' : eW} {OP OD CL : Int → Int → Int} {h t0 : Int}
/-- parts went on along a belt -/
theorem kI.wy (q : kI w OP OD CL h t0) (hT : e_Has kTy w') (f : e_fr kWy w w') (hk : ∀ p, kn1 (w 37 p) → kn1 (w' 37 p)) : kI w' OP OD CL h t0 := by
  have hB := q.bel
  have e : ∀ c k, c ≠ 37 → w' c k = w c k := fun c k g => f c k g
  refine kI.fl q hT (a := 0) (by omega) (f.mono (fun c k g => by unfold kWy at g; exact Or.inl (by omega))) ⟨fun b g1 g2 => ?_, fun p g1 g2 => ?_⟩ (fun b g1 g2 => ?_)
  · rw [e 19 0 (by decide)] at g2
    have qb := q.fk.1 b g1 g2
    unfold fO at qb ⊢
    rw [e 35 b (by decide)]
    refine ⟨qb.1, fun i g3 g4 => ?_⟩
    rw [e (b + 31) i (by omega), e 19 1 (by decide), e 36 _ (by decide)]
    exact qb.2 i g3 g4
  · rw [e 19 1 (by decide)] at g2
    have qp := q.fk.2 p g1 g2
    unfold fP at qp ⊢
    rw [e 36 p (by decide), e 39 p (by decide), e 40 p (by decide), e 19 0 (by decide)]
    exact ⟨qp.1, fun g => ⟨(qp.2.1 g).1, hk p (qp.2.1 g).2⟩, qp.2.2⟩
  · exact ((q.2.1 b g1 g2).2.2.2.2.1).eq (fun c k g => e c k (by omega))
/-- an arm keeps its points -/
theorem kI.old {a : Int} (q : kI w OP OD CL h t0) (hT : e_Has kTy w') (ha : 0 ≤ a ∧ a ≤ 3) (f : e_fr (kOl a) w w') (hO : oK w' a) : kI w' OP OD CL h t0 := by
  have hn := (kn_joints q.1 ha).2
  have e : ∀ c k, c ≠ 17 * a + 90 → c ≠ 17 * a + 91 → w' c k = w c k := fun c k g1 g2 => f c k (by unfold kOl; omega)
  obtain ⟨p1, p2, p3, p4, p5, p6⟩ := q.2.1 a ha.1 ha.2
  refine kI.ar q hT ha (f.mono (fun c k g => by unfold kOl at g; exact Or.inr (Or.inr (Or.inr (Or.inr (Or.inl (by omega))))))) (q.lgk.fr f (by unfold kOl; omega) (fun k => by unfold kOl; omega)) ⟨p1.eq (fun c k g => e c k (by omega) (by omega)), hO, ?_, p4.eq hn (fun c k g => e c k (by omega) (by omega)), p5.eq (fun c k g => e c k (by omega) (by omega)), p6.eq hn (fun c k g => e c k (by omega) (by omega))⟩ (fun g g9 => by rw [e _ _ (by omega) (by omega)]; exact q.pw g a ha.1 ha.2 g9)
  rw [e (17 * a + 86) 8 (by omega) (by omega), e (17 * a + 86) 11 (by omega) (by omega)]
  exact p3.eq hn (fun c k g1 g2 g3 g4 => e c k (by omega) (by omega))
theorem hm_kCi {c k : Int} (g : kCi c k) : kHm c k := by
  unfold kCi at g
  unfold kHm
  have h1 : 76 ≤ c ∧ c ≤ 81 := by omega
  simp only [h1.1, h1.2, true_and, true_or, or_true]
end Kt
theorem no_cu_0 {k : Int} : ¬ kCi 0 k := by unfold kCi; omega
theorem no_cu_1 {k : Int} : ¬ kCi 74 k := by unfold kCi; omega
theorem no_cu_2 {k : Int} : ¬ kNw 0 k := by unfold kNw; omega
theorem no_cu_3 {k : Int} : ¬ kNw 19 k := by unfold kNw; omega
theorem no_cu_4 {k : Int} : ¬ kNw 9 k := by unfold kNw; omega
theorem no_cu_5 {k : Int} : ¬ kWy 0 k := by unfold kWy; omega
theorem no_cu_6 {k : Int} : ¬ kWy 19 k := by unfold kWy; omega
theorem no_cu_7 {k : Int} : ¬ kWy 22 k := by unfold kWy; omega
theorem no_cu_8 {k : Int} : ¬ kNw 22 k := by unfold kNw; omega
theorem no_cu_9 : ¬ kNw 8 4 := by unfold kNw; omega
theorem no_cu_10 {k : Int} : ¬ kNw 82 k := by unfold kNw; omega
set_option maxHeartbeats 4000000 in
theorem c_259 {d : Nat} (hd : 29 ≤ d) {w : eW} (hT : e_Has kTy w) {OP OD CL : Int → Int → Int} {h : Int} (q : kI w OP OD CL h (-1)) (h0 : 0 ≤ h) (ht : w 74 0 < 6000) (he : w 74 1 ≤ 1900000000) : e_Ok 20 elay kcode eI d 259 (0, [(0, (1, 0))], [], w) (fun r w' => r = [] ∧ e_Has kTy w' ∧ (e_fr kNw w w' ∧ w' 74 0 = w 74 0 + 1) ∧ ∃ h', h ≤ h' ∧ kI w' OP OD CL h' (-1) ∧ w 74 1 ≤ w' 74 1 ∧ w' 74 1 ≤ w 74 1 + 900 ∧ aQ w w') := by
  obtain ⟨d, rfl⟩ : ∃ e, d = e + 1 := ⟨d - 1, by omega⟩
  have h74 := e_Has.get hT (c := 74) (k := 1) (lo := 0) (hi := 2147483647) rfl (by decide)
  have h740 := e_Has.get hT (c := 74) (k := 0) (lo := 0) (hi := 6000) rfl (by decide)
  refine e_Ok.run (t' := (1, [(0, (1, 0))], [(1, 0)], w)) 1 rfl ?_
  refine e_Ok.getr (z := 74) rfl (el_o rfl) rfl rfl (Eq.trans (e_Has.eq hT rfl) (by omega)) (by omega) ?_
  refine e_Ok.run (t' := (5, [(0, (1, 0))], [(1, 74), (1, 74)], w)) 1 rfl ?_
  refine e_Ok.getf (z := w 74 0) rfl (el_o rfl) rfl rfl rfl (by omega) ?_
  refine e_Ok.run (t' := (9, [(0, (1, 0))], [(0, 1), (0, w 74 0), (1, 74)], w)) 1 rfl ?_
  refine e_Ok.add (z := w 74 0 + 1) rfl (by omega) (by omega) ?_
  refine e_Ok.putf rfl (el_o rfl) rfl rfl ?_
  generalize hw1 : e_up w 74 0 (w 74 0 + 1) = w1
  have f2 : e_fr kNw w w1 := e_fr.up (e_fr.refl w) hw1 (by first | exact Or.inl ⟨rfl, (by decide)⟩ | (unfold kNw; omega))
  have hT3 : e_Has kTy w1 := e_Has.upr hT hw1 rfl (by omega)
  have A4 : aQ w w1 := aQ.trans (aQ.refl w) (aQ.q (e_fr.up (e_fr.refl _) hw1 (by unfold kNq; omega)) hT hT3)
  have QA := kI.hu q hT3 hw1 (hm_74 (by omega))
  have tA : w1 74 0 = w 74 0 + 1 := (by rw [← hw1]; exact e_up_eq _ _ _ _)
  have vA : w1 74 1 = w 74 1 := (by rw [← hw1]; exact (e_up_ne _ _ (Or.inr (by omega))).trans rfl)
  refine e_Ok.run (t' := (14, [(0, (1, 0))], [(1, 0)], w1)) 1 rfl ?_
  refine e_Ok.getr (z := 74) rfl (el_o rfl) rfl rfl (by rw [← hw1]; exact (e_up_ne _ _ (Or.inl (by omega))).trans (Eq.trans (e_Has.eq hT rfl) (by omega))) (by omega) ?_
  refine e_Ok.callV rfl (by omega) rfl rfl rfl rfl (c_32 (by omega) hT3) (fun r5 w6 h7 => ?_)
  obtain ⟨z8, rfl, q9f, q9T, q9r⟩ := h7
  have f10 : e_fr kNw w w6 := e_fr.trans f2 (e_fr.mono q9f (fun c k q => by exact nw_kCi q))
  have A11 : aQ w w6 := aQ.trans A4 (aQ.q (e_fr.mono q9f (fun c k q => nq_kCi q)) hT3 q9T)
  have Q12 := kI.hm QA q9T (e_fr.mono q9f (fun c k g => hm_kCi g))
  have tB : w6 74 0 = w 74 0 + 1 := (q9f _ _ (by unfold kCi; omega)).trans tA
  have vB : w6 74 1 = w 74 1 := (q9f _ _ (by unfold kCi; omega)).trans vA
  show e_Ok 20 elay kcode eI (d + 1) 259 (20, [(0, (1, 0))], [(0, z8)], w6) _
  refine e_Ok.run (t' := (22, [(1, (0, z8)), (0, (1, 0))], [(1, 0)], w6)) 2 rfl ?_
  refine e_Ok.getr (z := 74) rfl (el_o rfl) rfl rfl ((q9f 0 5 no_cu_0).trans (by rw [← hw1]; exact (e_up_ne _ _ (Or.inl (by omega))).trans (Eq.trans (e_Has.eq hT rfl) (by omega)))) (by omega) ?_
  have h13 := (e_Has.get hT (c := 74) (k := 3) (lo := 0) (hi := 1) rfl (by decide))
  refine e_Ok.getf (z := w 74 3) rfl (el_o rfl) rfl rfl ((q9f 74 3 no_cu_1).trans (by rw [← hw1]; exact (e_up_ne _ _ (Or.inr (by omega))).trans rfl)) (by omega) ?_
  refine e_Ok.if1 rfl (fun h14 => ?_) (fun h14 => ?_)
  · replace h14 : (w 74 3 : Int) = 0 := h14
    refine e_Ok.run (t' := (43, [(2, (0, 0)), (1, (0, z8)), (0, (1, 0))], [], w6)) 2 rfl ?_
    have hL15 : ∀ (nn : Nat) (y2 : Int) (v1 : eW) (h1 : Int), e_fr kNw w v1 ∧ e_Has kTy v1 ∧ v1 74 0 = w 74 0 + 1 ∧ h ≤ h1 ∧ kI v1 OP OD CL h1 (-1) ∧ ((w 74 1 ≤ v1 74 1 ∧ v1 74 1 ≤ w 74 1 + 5 + 24 * y2)) ∧ (0 ≤ y2 ∧ y2 ≤ 16) ∧ aQ w v1 → 16 - y2 < nn → e_Ok 20 elay kcode eI (d + 1) 259 (43, [(0, (1, 0)), (2, (0, y2))], [], v1) (fun r w' => r = [] ∧ e_Has kTy w' ∧ (e_fr kNw w w' ∧ w' 74 0 = w 74 0 + 1) ∧ ∃ h', h ≤ h' ∧ kI w' OP OD CL h' (-1) ∧ w 74 1 ≤ w' 74 1 ∧ w' 74 1 ≤ w 74 1 + 900 ∧ aQ w w') := by
      intro nn
      induction nn with
      | zero => intro y2 v1 h1 hj hm; obtain ⟨j17, j18, j19, j20, j21, j22, j23, j24⟩ := hj; exfalso; omega
      | succ nn ih16 =>
        intro y2 v1 h1 hj hm
        obtain ⟨j17, j18, j19, j20, j21, j22, j23, j24⟩ := hj
        refine e_Ok.run (t' := (46, [(0, (1, 0)), (2, (0, y2))], [(0, 16), (0, y2)], v1)) 2 rfl ?_
        refine e_Ok.if2 rfl (fun h25 => ?_) (fun h25 => ?_)
        · replace h25 : (y2 : Int) ≥ 16 := h25
          refine e_Ok.run (t' := (84, [(2, (0, 0)), (0, (1, 0))], [], v1)) 2 rfl ?_
          have hL26 : ∀ (nn : Nat) (y2b : Int) (v2 : eW), e_fr kNw w v2 ∧ e_Has kTy v2 ∧ v2 74 0 = w 74 0 + 1 ∧ kI v2 OP OD CL h1 (-1) ∧ ((w 74 1 ≤ v2 74 1 ∧ v2 74 1 ≤ w 74 1 + 389 + y2b)) ∧ (0 ≤ y2b ∧ y2b ≤ 4) ∧ aQ w v2 → 4 - y2b < nn → e_Ok 20 elay kcode eI (d + 1) 259 (84, [(0, (1, 0)), (2, (0, y2b))], [], v2) (fun r w' => r = [] ∧ e_Has kTy w' ∧ (e_fr kNw w w' ∧ w' 74 0 = w 74 0 + 1) ∧ ∃ h', h ≤ h' ∧ kI w' OP OD CL h' (-1) ∧ w 74 1 ≤ w' 74 1 ∧ w' 74 1 ≤ w 74 1 + 900 ∧ aQ w w') := by
            intro nn
            induction nn with
            | zero => intro y2b v2 hj hm; obtain ⟨j28, j29, j30, j31, j32, j33, j34⟩ := hj; exfalso; omega
            | succ nn ih27 =>
              intro y2b v2 hj hm
              obtain ⟨j28, j29, j30, j31, j32, j33, j34⟩ := hj
              refine e_Ok.run (t' := (86, [(0, (1, 0)), (2, (0, y2b))], [(1, 0), (0, y2b)], v2)) 2 rfl ?_
              have h35 := (e_Has.get hT (c := 0) (k := 11) (lo := 0) (hi := 4) rfl (by decide))
              refine e_Ok.getf (z := w 0 11) rfl (el_o rfl) rfl rfl ((j28 0 11 no_cu_2).trans rfl) (by omega) ?_
              refine e_Ok.if2 rfl (fun h36 => ?_) (fun h36 => ?_)
              · replace h36 : (y2b : Int) ≥ w 0 11 := h36
                refine e_Ok.run (t' := (104, [(0, (1, 0)), (2, (0, y2b))], [(1, 0)], v2)) 1 rfl ?_
                refine e_Ok.getr (z := 74) rfl (el_o rfl) rfl rfl ((j28 0 5 no_cu_2).trans (Eq.trans (e_Has.eq hT rfl) (by omega))) (by omega) ?_
                have h37 := (e_Has.get j29 (c := 74) (k := 3) (lo := 0) (hi := 1) rfl (by decide))
                refine e_Ok.getf (z := v2 74 3) rfl (el_o rfl) rfl rfl rfl (by omega) ?_
                refine e_Ok.if1 rfl (fun h38 => ?_) (fun h38 => ?_)
                · replace h38 : (v2 74 3 : Int) = 0 := h38
                  refine e_Ok.run (t' := (119, [(2, (0, 0)), (0, (1, 0))], [], v2)) 2 rfl ?_
                  have hL40 : ∀ (nn : Nat) (y2c : Int) (v3 : eW), e_fr kNw w v3 ∧ e_Has kTy v3 ∧ v3 74 0 = w 74 0 + 1 ∧ kI v3 OP OD CL h1 (-1) ∧ ((w 74 1 ≤ v3 74 1 ∧ v3 74 1 ≤ w 74 1 + 398)) ∧ (0 ≤ y2c ∧ y2c ≤ 4) ∧ aQ w v3 → 4 - y2c < nn → e_Ok 20 elay kcode eI (d + 1) 259 (119, [(0, (1, 0)), (2, (0, y2c))], [], v3) (fun r w' => r = [] ∧ e_Has kTy w' ∧ (e_fr kNw w w' ∧ w' 74 0 = w 74 0 + 1) ∧ ∃ h', h ≤ h' ∧ kI w' OP OD CL h' (-1) ∧ w 74 1 ≤ w' 74 1 ∧ w' 74 1 ≤ w 74 1 + 900 ∧ aQ w w') := by
                    intro nn
                    induction nn with
                    | zero => intro y2c v3 hj hm; obtain ⟨j42, j43, j44, j45, j46, j47, j48⟩ := hj; exfalso; omega
                    | succ nn ih41 =>
                      intro y2c v3 hj hm
                      obtain ⟨j42, j43, j44, j45, j46, j47, j48⟩ := hj
                      have b0 : v3 19 0 = w 19 0 := j42 _ _ (by unfold kNw; omega)
                      refine e_Ok.run (t' := (121, [(0, (1, 0)), (2, (0, y2c))], [(1, 0), (0, y2c)], v3)) 2 rfl ?_
                      refine e_Ok.getr (z := 19) rfl (el_o rfl) rfl rfl ((j42 0 4 no_cu_2).trans (Eq.trans (e_Has.eq hT rfl) (by omega))) (by omega) ?_
                      have h49 := (e_Has.get hT (c := 19) (k := 0) (lo := 0) (hi := 4) rfl (by decide))
                      refine e_Ok.getf (z := w 19 0) rfl (el_o rfl) rfl rfl ((j42 19 0 no_cu_3).trans rfl) (by omega) ?_
                      refine e_Ok.if2 rfl (fun h50 => ?_) (fun h50 => ?_)
                      · replace h50 : (y2c : Int) ≥ w 19 0 := h50
                        refine e_Ok.run (t' := (191, [(2, (0, 0)), (0, (1, 0))], [], v3)) 2 rfl ?_
                        have hL51 : ∀ (nn : Nat) (y2d : Int) (v4 : eW), e_fr kNw w v4 ∧ e_Has kTy v4 ∧ v4 74 0 = w 74 0 + 1 ∧ kI v4 OP OD CL h1 (-1) ∧ ((w 74 1 ≤ v4 74 1 ∧ v4 74 1 ≤ w 74 1 + 398)) ∧ (0 ≤ y2d ∧ y2d ≤ 4) ∧ aQ w v4 → 4 - y2d < nn → e_Ok 20 elay kcode eI (d + 1) 259 (191, [(0, (1, 0)), (2, (0, y2d))], [], v4) (fun r w' => r = [] ∧ e_Has kTy w' ∧ (e_fr kNw w w' ∧ w' 74 0 = w 74 0 + 1) ∧ ∃ h', h ≤ h' ∧ kI w' OP OD CL h' (-1) ∧ w 74 1 ≤ w' 74 1 ∧ w' 74 1 ≤ w 74 1 + 900 ∧ aQ w w') := by
                          intro nn
                          induction nn with
                          | zero => intro y2d v4 hj hm; obtain ⟨j53, j54, j55, j56, j57, j58, j59⟩ := hj; exfalso; omega
                          | succ nn ih52 =>
                            intro y2d v4 hj hm
                            obtain ⟨j53, j54, j55, j56, j57, j58, j59⟩ := hj
                            refine e_Ok.run (t' := (193, [(0, (1, 0)), (2, (0, y2d))], [(1, 0), (0, y2d)], v4)) 2 rfl ?_
                            refine e_Ok.getf (z := w 0 11) rfl (el_o rfl) rfl rfl ((j53 0 11 no_cu_2).trans rfl) (by omega) ?_
                            refine e_Ok.if2 rfl (fun h60 => ?_) (fun h60 => ?_)
                            · replace h60 : (y2d : Int) ≥ w 0 11 := h60
                              have hfk := j56.fk; have hbl := j56.bel
                              refine e_Ok.jp rfl ⟨rfl, j54, fun b g1 g2 => ⟨(hfk.1 b g1 g2).1, fun i g3 g4 => ?_⟩, fun p g1 g2 => ?_⟩ (fun w61 hw61 => ?_)
                              · have g5 := ((hfk.1 b g1 g2).2 i g3 g4).1; have g6 := e_Has.get j54 (c := 19) (k := 1) (lo := 0) (hi := 32) rfl (by decide); unfold kn1; omega
                              · have g5 := (hfk.2 p g1 g2).1; unfold kn1; omega
                              have fHv : e_fr kHv v4 w61 := by rw [← hw61]; exact e_hk_fr _
                              have QH := kI.hk j56 hw61
                              have f62 : e_fr kNw w w61 := e_fr.trans j53 (e_fr.mono fHv (fun c k q => by exact nw_kHv q))
                              have A63 : aQ w w61 := aQ.trans j59 (aQ.q (e_fr.mono fHv (fun c k q => nq_kHv q)) j54 QH.1)
                              refine e_Ok.rets rfl rfl ?_
                              exact ⟨rfl, QH.1, ⟨f62, (fHv _ _ (by unfold kHv; omega)).trans j55⟩, h1, j20, QH, by rw [fHv _ _ (by unfold kHv; omega)]; omega, by rw [fHv _ _ (by unfold kHv; omega)]; omega, A63⟩
                            · replace h60 : (y2d : Int) < w 0 11 := by have q : ¬ ((y2d : Int) ≥ w 0 11) := h60; omega
                              refine e_Ok.run (t' := (200, [(0, (1, 0)), (2, (0, y2d))], [(1, 0)], v4)) 1 rfl ?_
                              refine e_Ok.getr (z := 9) rfl (el_o rfl) rfl rfl ((j53 0 2 no_cu_2).trans (Eq.trans (e_Has.eq hT rfl) (by omega))) (by omega) ?_
                              refine e_Ok.run (t' := (204, [(0, (1, 0)), (2, (0, y2d))], [(0, y2d), (1, 9)], v4)) 1 rfl ?_
                              refine e_Ok.aald (z := 17 * y2d + 86) rfl (el_o rfl) rfl (by omega) ((j53 9 y2d no_cu_4).trans (Eq.trans (e_Has.eq hT (k9 (by omega))) (by omega))) (by omega) ?_
                              refine e_Ok.callV rfl (by omega) rfl (lA0 (a := y2d) (by omega) (by omega)) rfl rfl (c_11 (a := y2d) j54 (by omega) (j56.arm (by omega) (by omega)).1) (fun r64 w65 h66 => ?_)
                              obtain ⟨rfl, q67f, q67T, q67x⟩ := h66
                              have f68 : e_fr kNw w w65 := e_fr.trans j53 (e_fr.mono q67f (fun c k q => by exact nw_kOl (by omega) q))
                              have A69 : aQ w w65 := aQ.trans j59 (aQ.q (e_fr.mono q67f (fun c k q => nq_kOl (by omega) q)) j54 q67T)
                              have Q70 := kI.old j56 q67T (a := y2d) (by omega) q67f q67x
                              show e_Ok 20 elay kcode eI (d + 1) 259 (208, [(0, (1, 0)), (2, (0, y2d))], [], w65) _
                              refine e_Ok.inc (z := y2d + 1) rfl rfl (by omega) (by omega) ?_
                              show e_Ok 20 elay kcode eI (d + 1) 259 (211, [(2, (0, y2d + 1)), (0, (1, 0))], [], w65) _
                              refine e_Ok.run (t' := (191, [(2, (0, y2d + 1)), (0, (1, 0))], [], w65)) 1 rfl ?_
                              refine e_Ok.sub kAlk (e_sub_of rfl ?_) (ih52 (y2d + 1) w65 ⟨f68, q67T, ((q67f _ _ (by unfold kOl; omega)).trans j55), Q70, (by rw [q67f _ _ (by unfold kOl; omega)]; omega), by omega, A69⟩ (by omega))
                              exact ⟨rfl, rfl, trivial⟩
                        refine e_Ok.sub kAlk (e_sub_of rfl ?_) (hL51 (4 + 1 : Int).toNat 0 v3 ⟨j42, j43, j44, j45, by omega, by omega, j48⟩ (by omega))
                        exact ⟨rfl, rfl, trivial⟩
                      · replace h50 : (y2c : Int) < w 19 0 := by have q : ¬ ((y2c : Int) ≥ w 19 0) := h50; omega
                        refine e_Ok.run (t' := (131, [(0, (1, 0)), (2, (0, y2c))], [(1, 0)], v3)) 1 rfl ?_
                        refine e_Ok.getr (z := 19) rfl (el_o rfl) rfl rfl ((j42 0 4 no_cu_2).trans (Eq.trans (e_Has.eq hT rfl) (by omega))) (by omega) ?_
                        refine e_Ok.run (t' := (135, [(0, (1, 0)), (2, (0, y2c))], [(0, y2c), (1, 19)], v3)) 1 rfl ?_
                        refine e_Ok.callV rfl (by omega) rfl rfl rfl rfl (c_86 j43 (by omega) j45.fk (by omega)) (fun r71 w72 h73 => ?_)
                        obtain ⟨rfl, q74f, q74T, q74x⟩ := h73
                        have f75 : e_fr kNw w w72 := e_fr.trans j42 (e_fr.mono q74f (fun c k q => by exact nw_kWy q))
                        have A76 : aQ w w72 := aQ.trans j48 (aQ.q (e_fr.mono q74f (fun c k q => nq_kWy q)) j43 q74T)
                        have Q77 := kI.wy j45 q74T q74f q74x
                        have tG : w72 74 0 = w 74 0 + 1 := (q74f _ _ (by unfold kWy; omega)).trans j44
                        have vG : w72 74 1 = v3 74 1 := q74f _ _ (by unfold kWy; omega)
                        have bG : w72 19 0 = v3 19 0 := q74f _ _ (by unfold kWy; omega)
                        show e_Ok 20 elay kcode eI (d + 1) 259 (138, [(0, (1, 0)), (2, (0, y2c))], [], w72) _
                        refine e_Ok.run (t' := (139, [(0, (1, 0)), (2, (0, y2c))], [(1, 0)], w72)) 1 rfl ?_
                        refine e_Ok.getr (z := 19) rfl (el_o rfl) rfl rfl ((q74f 0 4 no_cu_5).trans ((j42 0 4 no_cu_2).trans (Eq.trans (e_Has.eq hT rfl) (by omega)))) (by omega) ?_
                        refine e_Ok.getr (z := 22) rfl (el_o rfl) rfl rfl ((q74f 19 4 no_cu_6).trans ((j42 19 4 no_cu_3).trans (Eq.trans (e_Has.eq hT rfl) (by omega)))) (by omega) ?_
                        refine e_Ok.run (t' := (146, [(0, (1, 0)), (2, (0, y2c))], [(0, y2c), (1, 22)], w72)) 1 rfl ?_
                        have h78 := (e_Has.get hT (c := 22) (k := y2c) (lo := (-1)) (hi := 63) rfl (by decide))
                        refine e_Ok.ald (z := w 22 y2c) rfl (el_o rfl) rfl (by omega) ((q74f 22 y2c no_cu_7).trans ((j42 22 y2c no_cu_8).trans rfl)) (by omega) ?_
                        refine e_Ok.if1 rfl (fun h79 => ?_) (fun h79 => ?_)
                        · replace h79 : (w 22 y2c : Int) < 0 := h79
                          refine e_Ok.inc (z := y2c + 1) rfl rfl (by omega) (by omega) ?_
                          show e_Ok 20 elay kcode eI (d + 1) 259 (186, [(2, (0, y2c + 1)), (0, (1, 0))], [], w72) _
                          refine e_Ok.run (t' := (119, [(2, (0, y2c + 1)), (0, (1, 0))], [], w72)) 1 rfl ?_
                          refine e_Ok.sub kAlk (e_sub_of rfl ?_) (ih41 (y2c + 1) w72 ⟨f75, q74T, tG, Q77, (by omega), by omega, A76⟩ (by omega))
                          exact ⟨rfl, rfl, trivial⟩
                        · replace h79 : (w 22 y2c : Int) ≥ 0 := by have q : ¬ ((w 22 y2c : Int) < 0) := h79; omega
                          refine e_Ok.run (t' := (151, [(0, (1, 0)), (2, (0, y2c))], [(1, 0)], w72)) 1 rfl ?_
                          refine e_Ok.getr (z := 10) rfl (el_o rfl) rfl rfl ((q74f 0 3 no_cu_5).trans ((j42 0 3 no_cu_2).trans (Eq.trans (e_Has.eq hT rfl) (by omega)))) (by omega) ?_
                          refine e_Ok.run (t' := (155, [(0, (1, 0)), (2, (0, y2c))], [(1, 0), (1, 10)], w72)) 1 rfl ?_
                          refine e_Ok.getr (z := 19) rfl (el_o rfl) rfl rfl ((q74f 0 4 no_cu_5).trans ((j42 0 4 no_cu_2).trans (Eq.trans (e_Has.eq hT rfl) (by omega)))) (by omega) ?_
                          refine e_Ok.getr (z := 22) rfl (el_o rfl) rfl rfl ((q74f 19 4 no_cu_6).trans ((j42 19 4 no_cu_3).trans (Eq.trans (e_Has.eq hT rfl) (by omega)))) (by omega) ?_
                          refine e_Ok.run (t' := (162, [(0, (1, 0)), (2, (0, y2c))], [(0, y2c), (1, 22), (1, 10)], w72)) 1 rfl ?_
                          refine e_Ok.ald (z := w 22 y2c) rfl (el_o rfl) rfl (by omega) ((q74f 22 y2c no_cu_7).trans ((j42 22 y2c no_cu_8).trans rfl)) (by omega) ?_
                          refine e_Ok.run (t' := (164, [(0, (1, 0)), (2, (0, y2c))], [(1, 0), (0, w 22 y2c), (1, 10)], w72)) 1 rfl ?_
                          refine e_Ok.getr (z := 19) rfl (el_o rfl) rfl rfl ((q74f 0 4 no_cu_5).trans ((j42 0 4 no_cu_2).trans (Eq.trans (e_Has.eq hT rfl) (by omega)))) (by omega) ?_
                          refine e_Ok.run (t' := (168, [(0, (1, 0)), (2, (0, y2c))], [(0, y2c), (1, 19), (0, w 22 y2c), (1, 10)], w72)) 1 rfl ?_
                          refine e_Ok.callV rfl (by omega) rfl rfl rfl rfl (c_87 (by omega) q74T (by omega) Q77.fk (by omega)) (fun r80 w81 h82 => ?_)
                          obtain ⟨z84, rfl, rfl, q83r⟩ := h82
                          show e_Ok 20 elay kcode eI (d + 1) 259 (171, [(0, (1, 0)), (2, (0, y2c))], [(0, z84), (0, w 22 y2c), (1, 10)], w72) _
                          have hJ87 : ∀ m86 : Int, 0 ≤ m86 ∧ m86 ≤ 1 → e_Ok 20 elay kcode eI (d + 1) 259 (179, [(0, (1, 0)), (2, (0, y2c))], [(0, m86), (0, w 22 y2c), (1, 10)], w72) (fun r w' => r = [] ∧ e_Has kTy w' ∧ (e_fr kNw w w' ∧ w' 74 0 = w 74 0 + 1) ∧ ∃ h', h ≤ h' ∧ kI w' OP OD CL h' (-1) ∧ w 74 1 ≤ w' 74 1 ∧ w' 74 1 ≤ w 74 1 + 900 ∧ aQ w w') := by
                            intro m86 m86r
                            refine e_Ok.callV rfl (by omega) rfl rfl rfl rfl (c_113 (by omega) q74T (by omega) (by omega) Q77.pf) (fun r88 w89 h90 => ?_)
                            obtain ⟨z92, rfl, q91f, q91T, q91r, q91x⟩ := h90
                            have f93 : e_fr kNw w w89 := e_fr.trans f75 (e_fr.mono q91f (fun c k q => by exact nw_kPo q))
                            have A94 : aQ w w89 := aQ.trans A76 (aQ.q (e_fr.mono q91f (fun c k q => nq_kPo q)) q74T q91T)
                            have Q95 := kI.po Q77 q91T (e_fr.mono q91f (fun c k g => ph_kPo g)) q91x
                            show e_Ok 20 elay kcode eI (d + 1) 259 (182, [(0, (1, 0)), (2, (0, y2c))], [(0, z92)], w89) _
                            refine e_Ok.run (t' := (183, [(0, (1, 0)), (2, (0, y2c))], [], w89)) 1 rfl ?_
                            refine e_Ok.inc (z := y2c + 1) rfl rfl (by omega) (by omega) ?_
                            show e_Ok 20 elay kcode eI (d + 1) 259 (186, [(2, (0, y2c + 1)), (0, (1, 0))], [], w89) _
                            refine e_Ok.run (t' := (119, [(2, (0, y2c + 1)), (0, (1, 0))], [], w89)) 1 rfl ?_
                            refine e_Ok.sub kAlk (e_sub_of rfl ?_) (ih41 (y2c + 1) w89 ⟨f93, q91T, ((q91f _ _ (by unfold kPo; omega)).trans tG), Q95, (by rw [q91f _ _ (by unfold kPo; omega)]; omega), by omega, A94⟩ (by omega))
                            exact ⟨rfl, rfl, trivial⟩
                          refine e_Ok.if1 rfl (fun h85 => ?_) (fun h85 => ?_)
                          · exact e_Ok.run 1 rfl (hJ87 0 (by omega))
                          · exact e_Ok.run 2 rfl (hJ87 1 (by omega))
                  refine e_Ok.sub kAlk (e_sub_of rfl ?_) (hL40 (4 + 1 : Int).toNat 0 v2 ⟨j28, j29, j30, j31, (by omega), by omega, j34⟩ (by omega))
                  exact ⟨rfl, rfl, trivial⟩
                · replace h38 : (v2 74 3 : Int) ≠ 0 := by have q : ¬ ((v2 74 3 : Int) = 0) := h38; omega
                  refine e_Ok.run (t' := (114, [(0, (1, 0)), (2, (0, y2b))], [(1, 0)], v2)) 1 rfl ?_
                  refine e_Ok.callV rfl (by omega) rfl rfl rfl rfl (c_262 (by omega) j29 j31 (by omega)) (fun r101 w103 h104 => ?_)
                  obtain ⟨rfl, q105T, q105f, q105x⟩ := h104
                  have f106 : e_fr kNw w w103 := e_fr.trans j28 (e_fr.mono q105f.1 (fun c k q => by exact nq_nw q))
                  have A107 : aQ w w103 := aQ.trans j34 (aQ.q q105f.1 j29 q105T)
                  show e_Ok 20 elay kcode eI (d + 1) 259 (117, [(0, (1, 0)), (2, (0, y2b))], [], w103) _
                  refine e_Ok.run (t' := (119, [(2, (0, 0)), (0, (1, 0))], [], w103)) 2 rfl ?_
                  have hL108 : ∀ (nn : Nat) (y2c : Int) (v3 : eW), e_fr kNw w v3 ∧ e_Has kTy v3 ∧ v3 74 0 = w 74 0 + 1 ∧ kI v3 OP OD CL h1 (-1) ∧ ((w 74 1 ≤ v3 74 1 ∧ v3 74 1 ≤ w 74 1 + 398)) ∧ (0 ≤ y2c ∧ y2c ≤ 4) ∧ aQ w v3 → 4 - y2c < nn → e_Ok 20 elay kcode eI (d + 1) 259 (119, [(0, (1, 0)), (2, (0, y2c))], [], v3) (fun r w' => r = [] ∧ e_Has kTy w' ∧ (e_fr kNw w w' ∧ w' 74 0 = w 74 0 + 1) ∧ ∃ h', h ≤ h' ∧ kI w' OP OD CL h' (-1) ∧ w 74 1 ≤ w' 74 1 ∧ w' 74 1 ≤ w 74 1 + 900 ∧ aQ w w') := by
                    intro nn
                    induction nn with
                    | zero => intro y2c v3 hj hm; obtain ⟨j110, j111, j112, j113, j114, j115, j116⟩ := hj; exfalso; omega
                    | succ nn ih109 =>
                      intro y2c v3 hj hm
                      obtain ⟨j110, j111, j112, j113, j114, j115, j116⟩ := hj
                      have b0 : v3 19 0 = w 19 0 := j110 _ _ (by unfold kNw; omega)
                      refine e_Ok.run (t' := (121, [(0, (1, 0)), (2, (0, y2c))], [(1, 0), (0, y2c)], v3)) 2 rfl ?_
                      refine e_Ok.getr (z := 19) rfl (el_o rfl) rfl rfl ((j110 0 4 no_cu_2).trans (Eq.trans (e_Has.eq hT rfl) (by omega))) (by omega) ?_
                      have h117 := (e_Has.get hT (c := 19) (k := 0) (lo := 0) (hi := 4) rfl (by decide))
                      refine e_Ok.getf (z := w 19 0) rfl (el_o rfl) rfl rfl ((j110 19 0 no_cu_3).trans rfl) (by omega) ?_
                      refine e_Ok.if2 rfl (fun h118 => ?_) (fun h118 => ?_)
                      · replace h118 : (y2c : Int) ≥ w 19 0 := h118
                        refine e_Ok.run (t' := (191, [(2, (0, 0)), (0, (1, 0))], [], v3)) 2 rfl ?_
                        have hL119 : ∀ (nn : Nat) (y2d : Int) (v4 : eW), e_fr kNw w v4 ∧ e_Has kTy v4 ∧ v4 74 0 = w 74 0 + 1 ∧ kI v4 OP OD CL h1 (-1) ∧ ((w 74 1 ≤ v4 74 1 ∧ v4 74 1 ≤ w 74 1 + 398)) ∧ (0 ≤ y2d ∧ y2d ≤ 4) ∧ aQ w v4 → 4 - y2d < nn → e_Ok 20 elay kcode eI (d + 1) 259 (191, [(0, (1, 0)), (2, (0, y2d))], [], v4) (fun r w' => r = [] ∧ e_Has kTy w' ∧ (e_fr kNw w w' ∧ w' 74 0 = w 74 0 + 1) ∧ ∃ h', h ≤ h' ∧ kI w' OP OD CL h' (-1) ∧ w 74 1 ≤ w' 74 1 ∧ w' 74 1 ≤ w 74 1 + 900 ∧ aQ w w') := by
                          intro nn
                          induction nn with
                          | zero => intro y2d v4 hj hm; obtain ⟨j121, j122, j123, j124, j125, j126, j127⟩ := hj; exfalso; omega
                          | succ nn ih120 =>
                            intro y2d v4 hj hm
                            obtain ⟨j121, j122, j123, j124, j125, j126, j127⟩ := hj
                            refine e_Ok.run (t' := (193, [(0, (1, 0)), (2, (0, y2d))], [(1, 0), (0, y2d)], v4)) 2 rfl ?_
                            refine e_Ok.getf (z := w 0 11) rfl (el_o rfl) rfl rfl ((j121 0 11 no_cu_2).trans rfl) (by omega) ?_
                            refine e_Ok.if2 rfl (fun h128 => ?_) (fun h128 => ?_)
                            · replace h128 : (y2d : Int) ≥ w 0 11 := h128
                              have hfk := j124.fk; have hbl := j124.bel
                              refine e_Ok.jp rfl ⟨rfl, j122, fun b g1 g2 => ⟨(hfk.1 b g1 g2).1, fun i g3 g4 => ?_⟩, fun p g1 g2 => ?_⟩ (fun w129 hw129 => ?_)
                              · have g5 := ((hfk.1 b g1 g2).2 i g3 g4).1; have g6 := e_Has.get j122 (c := 19) (k := 1) (lo := 0) (hi := 32) rfl (by decide); unfold kn1; omega
                              · have g5 := (hfk.2 p g1 g2).1; unfold kn1; omega
                              have fHv : e_fr kHv v4 w129 := by rw [← hw129]; exact e_hk_fr _
                              have QH := kI.hk j124 hw129
                              have f130 : e_fr kNw w w129 := e_fr.trans j121 (e_fr.mono fHv (fun c k q => by exact nw_kHv q))
                              have A131 : aQ w w129 := aQ.trans j127 (aQ.q (e_fr.mono fHv (fun c k q => nq_kHv q)) j122 QH.1)
                              refine e_Ok.rets rfl rfl ?_
                              exact ⟨rfl, QH.1, ⟨f130, (fHv _ _ (by unfold kHv; omega)).trans j123⟩, h1, j20, QH, by rw [fHv _ _ (by unfold kHv; omega)]; omega, by rw [fHv _ _ (by unfold kHv; omega)]; omega, A131⟩
                            · replace h128 : (y2d : Int) < w 0 11 := by have q : ¬ ((y2d : Int) ≥ w 0 11) := h128; omega
                              refine e_Ok.run (t' := (200, [(0, (1, 0)), (2, (0, y2d))], [(1, 0)], v4)) 1 rfl ?_
                              refine e_Ok.getr (z := 9) rfl (el_o rfl) rfl rfl ((j121 0 2 no_cu_2).trans (Eq.trans (e_Has.eq hT rfl) (by omega))) (by omega) ?_
                              refine e_Ok.run (t' := (204, [(0, (1, 0)), (2, (0, y2d))], [(0, y2d), (1, 9)], v4)) 1 rfl ?_
                              refine e_Ok.aald (z := 17 * y2d + 86) rfl (el_o rfl) rfl (by omega) ((j121 9 y2d no_cu_4).trans (Eq.trans (e_Has.eq hT (k9 (by omega))) (by omega))) (by omega) ?_
                              refine e_Ok.callV rfl (by omega) rfl (lA0 (a := y2d) (by omega) (by omega)) rfl rfl (c_11 (a := y2d) j122 (by omega) (j124.arm (by omega) (by omega)).1) (fun r132 w133 h134 => ?_)
                              obtain ⟨rfl, q135f, q135T, q135x⟩ := h134
                              have f136 : e_fr kNw w w133 := e_fr.trans j121 (e_fr.mono q135f (fun c k q => by exact nw_kOl (by omega) q))
                              have A137 : aQ w w133 := aQ.trans j127 (aQ.q (e_fr.mono q135f (fun c k q => nq_kOl (by omega) q)) j122 q135T)
                              have Q138 := kI.old j124 q135T (a := y2d) (by omega) q135f q135x
                              show e_Ok 20 elay kcode eI (d + 1) 259 (208, [(0, (1, 0)), (2, (0, y2d))], [], w133) _
                              refine e_Ok.inc (z := y2d + 1) rfl rfl (by omega) (by omega) ?_
                              show e_Ok 20 elay kcode eI (d + 1) 259 (211, [(2, (0, y2d + 1)), (0, (1, 0))], [], w133) _
                              refine e_Ok.run (t' := (191, [(2, (0, y2d + 1)), (0, (1, 0))], [], w133)) 1 rfl ?_
                              refine e_Ok.sub kAlk (e_sub_of rfl ?_) (ih120 (y2d + 1) w133 ⟨f136, q135T, ((q135f _ _ (by unfold kOl; omega)).trans j123), Q138, (by rw [q135f _ _ (by unfold kOl; omega)]; omega), by omega, A137⟩ (by omega))
                              exact ⟨rfl, rfl, trivial⟩
                        refine e_Ok.sub kAlk (e_sub_of rfl ?_) (hL119 (4 + 1 : Int).toNat 0 v3 ⟨j110, j111, j112, j113, by omega, by omega, j116⟩ (by omega))
                        exact ⟨rfl, rfl, trivial⟩
                      · replace h118 : (y2c : Int) < w 19 0 := by have q : ¬ ((y2c : Int) ≥ w 19 0) := h118; omega
                        refine e_Ok.run (t' := (131, [(0, (1, 0)), (2, (0, y2c))], [(1, 0)], v3)) 1 rfl ?_
                        refine e_Ok.getr (z := 19) rfl (el_o rfl) rfl rfl ((j110 0 4 no_cu_2).trans (Eq.trans (e_Has.eq hT rfl) (by omega))) (by omega) ?_
                        refine e_Ok.run (t' := (135, [(0, (1, 0)), (2, (0, y2c))], [(0, y2c), (1, 19)], v3)) 1 rfl ?_
                        refine e_Ok.callV rfl (by omega) rfl rfl rfl rfl (c_86 j111 (by omega) j113.fk (by omega)) (fun r139 w140 h141 => ?_)
                        obtain ⟨rfl, q142f, q142T, q142x⟩ := h141
                        have f143 : e_fr kNw w w140 := e_fr.trans j110 (e_fr.mono q142f (fun c k q => by exact nw_kWy q))
                        have A144 : aQ w w140 := aQ.trans j116 (aQ.q (e_fr.mono q142f (fun c k q => nq_kWy q)) j111 q142T)
                        have Q145 := kI.wy j113 q142T q142f q142x
                        have tG : w140 74 0 = w 74 0 + 1 := (q142f _ _ (by unfold kWy; omega)).trans j112
                        have vG : w140 74 1 = v3 74 1 := q142f _ _ (by unfold kWy; omega)
                        have bG : w140 19 0 = v3 19 0 := q142f _ _ (by unfold kWy; omega)
                        show e_Ok 20 elay kcode eI (d + 1) 259 (138, [(0, (1, 0)), (2, (0, y2c))], [], w140) _
                        refine e_Ok.run (t' := (139, [(0, (1, 0)), (2, (0, y2c))], [(1, 0)], w140)) 1 rfl ?_
                        refine e_Ok.getr (z := 19) rfl (el_o rfl) rfl rfl ((q142f 0 4 no_cu_5).trans ((j110 0 4 no_cu_2).trans (Eq.trans (e_Has.eq hT rfl) (by omega)))) (by omega) ?_
                        refine e_Ok.getr (z := 22) rfl (el_o rfl) rfl rfl ((q142f 19 4 no_cu_6).trans ((j110 19 4 no_cu_3).trans (Eq.trans (e_Has.eq hT rfl) (by omega)))) (by omega) ?_
                        refine e_Ok.run (t' := (146, [(0, (1, 0)), (2, (0, y2c))], [(0, y2c), (1, 22)], w140)) 1 rfl ?_
                        have h146 := (e_Has.get hT (c := 22) (k := y2c) (lo := (-1)) (hi := 63) rfl (by decide))
                        refine e_Ok.ald (z := w 22 y2c) rfl (el_o rfl) rfl (by omega) ((q142f 22 y2c no_cu_7).trans ((j110 22 y2c no_cu_8).trans rfl)) (by omega) ?_
                        refine e_Ok.if1 rfl (fun h147 => ?_) (fun h147 => ?_)
                        · replace h147 : (w 22 y2c : Int) < 0 := h147
                          refine e_Ok.inc (z := y2c + 1) rfl rfl (by omega) (by omega) ?_
                          show e_Ok 20 elay kcode eI (d + 1) 259 (186, [(2, (0, y2c + 1)), (0, (1, 0))], [], w140) _
                          refine e_Ok.run (t' := (119, [(2, (0, y2c + 1)), (0, (1, 0))], [], w140)) 1 rfl ?_
                          refine e_Ok.sub kAlk (e_sub_of rfl ?_) (ih109 (y2c + 1) w140 ⟨f143, q142T, tG, Q145, (by omega), by omega, A144⟩ (by omega))
                          exact ⟨rfl, rfl, trivial⟩
                        · replace h147 : (w 22 y2c : Int) ≥ 0 := by have q : ¬ ((w 22 y2c : Int) < 0) := h147; omega
                          refine e_Ok.run (t' := (151, [(0, (1, 0)), (2, (0, y2c))], [(1, 0)], w140)) 1 rfl ?_
                          refine e_Ok.getr (z := 10) rfl (el_o rfl) rfl rfl ((q142f 0 3 no_cu_5).trans ((j110 0 3 no_cu_2).trans (Eq.trans (e_Has.eq hT rfl) (by omega)))) (by omega) ?_
                          refine e_Ok.run (t' := (155, [(0, (1, 0)), (2, (0, y2c))], [(1, 0), (1, 10)], w140)) 1 rfl ?_
                          refine e_Ok.getr (z := 19) rfl (el_o rfl) rfl rfl ((q142f 0 4 no_cu_5).trans ((j110 0 4 no_cu_2).trans (Eq.trans (e_Has.eq hT rfl) (by omega)))) (by omega) ?_
                          refine e_Ok.getr (z := 22) rfl (el_o rfl) rfl rfl ((q142f 19 4 no_cu_6).trans ((j110 19 4 no_cu_3).trans (Eq.trans (e_Has.eq hT rfl) (by omega)))) (by omega) ?_
                          refine e_Ok.run (t' := (162, [(0, (1, 0)), (2, (0, y2c))], [(0, y2c), (1, 22), (1, 10)], w140)) 1 rfl ?_
                          refine e_Ok.ald (z := w 22 y2c) rfl (el_o rfl) rfl (by omega) ((q142f 22 y2c no_cu_7).trans ((j110 22 y2c no_cu_8).trans rfl)) (by omega) ?_
                          refine e_Ok.run (t' := (164, [(0, (1, 0)), (2, (0, y2c))], [(1, 0), (0, w 22 y2c), (1, 10)], w140)) 1 rfl ?_
                          refine e_Ok.getr (z := 19) rfl (el_o rfl) rfl rfl ((q142f 0 4 no_cu_5).trans ((j110 0 4 no_cu_2).trans (Eq.trans (e_Has.eq hT rfl) (by omega)))) (by omega) ?_
                          refine e_Ok.run (t' := (168, [(0, (1, 0)), (2, (0, y2c))], [(0, y2c), (1, 19), (0, w 22 y2c), (1, 10)], w140)) 1 rfl ?_
                          refine e_Ok.callV rfl (by omega) rfl rfl rfl rfl (c_87 (by omega) q142T (by omega) Q145.fk (by omega)) (fun r148 w149 h150 => ?_)
                          obtain ⟨z152, rfl, rfl, q151r⟩ := h150
                          show e_Ok 20 elay kcode eI (d + 1) 259 (171, [(0, (1, 0)), (2, (0, y2c))], [(0, z152), (0, w 22 y2c), (1, 10)], w140) _
                          have hJ155 : ∀ m154 : Int, 0 ≤ m154 ∧ m154 ≤ 1 → e_Ok 20 elay kcode eI (d + 1) 259 (179, [(0, (1, 0)), (2, (0, y2c))], [(0, m154), (0, w 22 y2c), (1, 10)], w140) (fun r w' => r = [] ∧ e_Has kTy w' ∧ (e_fr kNw w w' ∧ w' 74 0 = w 74 0 + 1) ∧ ∃ h', h ≤ h' ∧ kI w' OP OD CL h' (-1) ∧ w 74 1 ≤ w' 74 1 ∧ w' 74 1 ≤ w 74 1 + 900 ∧ aQ w w') := by
                            intro m154 m154r
                            refine e_Ok.callV rfl (by omega) rfl rfl rfl rfl (c_113 (by omega) q142T (by omega) (by omega) Q145.pf) (fun r156 w157 h158 => ?_)
                            obtain ⟨z160, rfl, q159f, q159T, q159r, q159x⟩ := h158
                            have f161 : e_fr kNw w w157 := e_fr.trans f143 (e_fr.mono q159f (fun c k q => by exact nw_kPo q))
                            have A162 : aQ w w157 := aQ.trans A144 (aQ.q (e_fr.mono q159f (fun c k q => nq_kPo q)) q142T q159T)
                            have Q163 := kI.po Q145 q159T (e_fr.mono q159f (fun c k g => ph_kPo g)) q159x
                            show e_Ok 20 elay kcode eI (d + 1) 259 (182, [(0, (1, 0)), (2, (0, y2c))], [(0, z160)], w157) _
                            refine e_Ok.run (t' := (183, [(0, (1, 0)), (2, (0, y2c))], [], w157)) 1 rfl ?_
                            refine e_Ok.inc (z := y2c + 1) rfl rfl (by omega) (by omega) ?_
                            show e_Ok 20 elay kcode eI (d + 1) 259 (186, [(2, (0, y2c + 1)), (0, (1, 0))], [], w157) _
                            refine e_Ok.run (t' := (119, [(2, (0, y2c + 1)), (0, (1, 0))], [], w157)) 1 rfl ?_
                            refine e_Ok.sub kAlk (e_sub_of rfl ?_) (ih109 (y2c + 1) w157 ⟨f161, q159T, ((q159f _ _ (by unfold kPo; omega)).trans tG), Q163, (by rw [q159f _ _ (by unfold kPo; omega)]; omega), by omega, A162⟩ (by omega))
                            exact ⟨rfl, rfl, trivial⟩
                          refine e_Ok.if1 rfl (fun h153 => ?_) (fun h153 => ?_)
                          · exact e_Ok.run 1 rfl (hJ155 0 (by omega))
                          · exact e_Ok.run 2 rfl (hJ155 1 (by omega))
                  refine e_Ok.sub kAlk (e_sub_of rfl ?_) (hL108 (4 + 1 : Int).toNat 0 w103 ⟨f106, q105T, (q105f.2.trans j30), q105x.1, (by have g := q105x.2; omega), by omega, A107⟩ (by omega))
                  exact ⟨rfl, rfl, trivial⟩
              · replace h36 : (y2b : Int) < w 0 11 := by have q : ¬ ((y2b : Int) ≥ w 0 11) := h36; omega
                refine e_Ok.run (t' := (94, [(0, (1, 0)), (2, (0, y2b))], [(0, y2b), (1, 0)], v2)) 2 rfl ?_
                refine e_Ok.callV rfl (by omega) rfl rfl rfl rfl (c_260 (by omega) (a := y2b) j29 (by omega) j31 (by omega)) (fun r164 w165 h166 => ?_)
                obtain ⟨rfl, q167T, q167f, q167x⟩ := h166
                have f168 : e_fr kNw w w165 := e_fr.trans j28 (e_fr.mono q167f.1 (fun c k q => by exact q))
                have A169 : aQ w w165 := aQ.trans j34 (q167x.2.2.2)
                show e_Ok 20 elay kcode eI (d + 1) 259 (97, [(0, (1, 0)), (2, (0, y2b))], [], w165) _
                refine e_Ok.inc (z := y2b + 1) rfl rfl (by omega) (by omega) ?_
                show e_Ok 20 elay kcode eI (d + 1) 259 (100, [(2, (0, y2b + 1)), (0, (1, 0))], [], w165) _
                refine e_Ok.run (t' := (84, [(2, (0, y2b + 1)), (0, (1, 0))], [], w165)) 1 rfl ?_
                refine e_Ok.sub kAlk (e_sub_of rfl ?_) (ih27 (y2b + 1) w165 ⟨f168, q167T, (q167f.2.trans j30), q167x.1, (by have g := q167x.2; omega), by omega, A169⟩ (by omega))
                exact ⟨rfl, rfl, trivial⟩
          refine e_Ok.sub kAlk (e_sub_of rfl ?_) (hL26 (4 + 1 : Int).toNat 0 v1 ⟨j17, j18, j19, j21, by omega, by omega, j24⟩ (by omega))
          exact ⟨rfl, rfl, trivial⟩
        · replace h25 : (y2 : Int) < 16 := by have q : ¬ ((y2 : Int) ≥ 16) := h25; omega
          refine e_Ok.run (t' := (50, [(0, (1, 0)), (2, (0, y2))], [(1, 0)], v1)) 1 rfl ?_
          refine e_Ok.getr (z := 8) rfl (el_o rfl) rfl rfl ((j17 0 1 no_cu_2).trans (Eq.trans (e_Has.eq hT rfl) (by omega))) (by omega) ?_
          refine e_Ok.run (t' := (54, [(0, (1, 0)), (2, (0, y2))], [(0, y2), (1, 8)], v1)) 1 rfl ?_
          refine e_Ok.callV rfl (by omega) rfl rfl rfl rfl (c_42 (by omega) j18 (by omega) j21) (fun r170 w171 h172 => ?_)
          obtain ⟨z173, rfl, rfl, q174r, q174x⟩ := h172
          show e_Ok 20 elay kcode eI (d + 1) 259 (57, [(0, (1, 0)), (2, (0, y2))], [(0, z173)], v1) _
          refine e_Ok.if1 rfl (fun h175 => ?_) (fun h175 => ?_)
          · replace h175 : (z173 : Int) = 0 := h175
            refine e_Ok.inc (z := y2 + 1) rfl rfl (by omega) (by omega) ?_
            show e_Ok 20 elay kcode eI (d + 1) 259 (79, [(2, (0, y2 + 1)), (0, (1, 0))], [], v1) _
            refine e_Ok.run (t' := (43, [(2, (0, y2 + 1)), (0, (1, 0))], [], v1)) 1 rfl ?_
            refine e_Ok.sub kAlk (e_sub_of rfl ?_) (ih16 (y2 + 1) v1 h1 ⟨j17, j18, j19, j20, j21, (by omega), by omega, j24⟩ (by omega))
            exact ⟨rfl, rfl, trivial⟩
          · replace h175 : (z173 : Int) ≠ 0 := by have q : ¬ ((z173 : Int) = 0) := h175; omega
            refine e_Ok.run (t' := (61, [(0, (1, 0)), (2, (0, y2))], [(1, 0)], v1)) 1 rfl ?_
            refine e_Ok.getr (z := 8) rfl (el_o rfl) rfl rfl ((j17 0 1 no_cu_2).trans (Eq.trans (e_Has.eq hT rfl) (by omega))) (by omega) ?_
            refine e_Ok.run (t' := (65, [(0, (1, 0)), (2, (0, y2))], [(1, 0), (1, 8)], v1)) 1 rfl ?_
            refine e_Ok.getr (z := 8) rfl (el_o rfl) rfl rfl ((j17 0 1 no_cu_2).trans (Eq.trans (e_Has.eq hT rfl) (by omega))) (by omega) ?_
            refine e_Ok.getr (z := 82) rfl (el_o rfl) rfl rfl ((j17 8 4 no_cu_9).trans (Eq.trans (e_Has.eq hT rfl) (by omega))) (by omega) ?_
            refine e_Ok.run (t' := (72, [(0, (1, 0)), (2, (0, y2))], [(0, y2), (1, 82), (1, 8)], v1)) 1 rfl ?_
            refine e_Ok.aald (z := 6 * y2 + 154) rfl (el_o rfl) rfl (by omega) ((j17 82 y2 no_cu_10).trans (Eq.trans (e_Has.eq hT (k82 (by omega))) (by omega))) (by omega) ?_
            have hact := q174x (by omega)
            have tq := j21.ts (t := y2) (by omega) (by omega)
            have ta := tq.1.1 (by omega) (by omega)
            have tb := e_Has.get j18 (c := 6 * y2 + 154) (k := 2) (lo := -1) (hi := 3) (kT_2 (t := y2) rfl (by omega)) (by decide)
            refine e_Ok.callV rfl (by omega) rfl rfl rfl rfl (c_43 (by omega) j18 (by omega) (kI.weak j21 (by decide)) (a := v1 (6 * y2 + 154) 2) (by omega) rfl rfl (by omega) hact ((tq.2 hact.1 hact.2).2 (by omega)) (by omega)) (fun r176 w177 h178 => ?_)
            obtain ⟨rfl, q179T, q179f, q179h, q179x⟩ := h178
            have f180 : e_fr kNw w w177 := e_fr.trans j17 (e_fr.mono q179f.1 (fun c k q => by exact nq_nw q))
            have A181 : aQ w w177 := aQ.trans j24 (aQ.q q179f.1 j18 q179T)
            show e_Ok 20 elay kcode eI (d + 1) 259 (76, [(0, (1, 0)), (2, (0, y2))], [], w177) _
            refine e_Ok.inc (z := y2 + 1) rfl rfl (by omega) (by omega) ?_
            show e_Ok 20 elay kcode eI (d + 1) 259 (79, [(2, (0, y2 + 1)), (0, (1, 0))], [], w177) _
            refine e_Ok.run (t' := (43, [(2, (0, y2 + 1)), (0, (1, 0))], [], w177)) 1 rfl ?_
            refine e_Ok.sub kAlk (e_sub_of rfl ?_) (ih16 (y2 + 1) w177 q179h ⟨f180, q179T, (q179f.2.trans j19), (Int.le_trans j20 q179x.1), q179x.2.1, (by have g := q179x.2.2; omega), by omega, A181⟩ (by omega))
            exact ⟨rfl, rfl, trivial⟩
    refine e_Ok.sub kAlk (e_sub_of rfl ?_) (hL15 (16 + 1 : Int).toNat 0 w6 h ⟨f10, q9T, tB, Int.le_refl h, Q12, (by omega), by omega, A11⟩ (by omega))
    exact ⟨rfl, rfl, trivial⟩
  · replace h14 : (w 74 3 : Int) ≠ 0 := by have q : ¬ ((w 74 3 : Int) = 0) := h14; omega
    refine e_Ok.run (t' := (32, [(1, (0, z8)), (0, (1, 0))], [(0, z8)], w6)) 1 rfl ?_
    refine e_Ok.if1 rfl (fun h182 => ?_) (fun h182 => ?_)
    · replace h182 : (z8 : Int) < 0 := h182
      refine e_Ok.run (t' := (43, [(2, (0, 0)), (1, (0, z8)), (0, (1, 0))], [], w6)) 2 rfl ?_
      have hL183 : ∀ (nn : Nat) (y2 : Int) (v1 : eW) (h1 : Int), e_fr kNw w v1 ∧ e_Has kTy v1 ∧ v1 74 0 = w 74 0 + 1 ∧ h ≤ h1 ∧ kI v1 OP OD CL h1 (-1) ∧ ((w 74 1 ≤ v1 74 1 ∧ v1 74 1 ≤ w 74 1 + 5 + 24 * y2)) ∧ (0 ≤ y2 ∧ y2 ≤ 16) ∧ aQ w v1 → 16 - y2 < nn → e_Ok 20 elay kcode eI (d + 1) 259 (43, [(0, (1, 0)), (2, (0, y2))], [], v1) (fun r w' => r = [] ∧ e_Has kTy w' ∧ (e_fr kNw w w' ∧ w' 74 0 = w 74 0 + 1) ∧ ∃ h', h ≤ h' ∧ kI w' OP OD CL h' (-1) ∧ w 74 1 ≤ w' 74 1 ∧ w' 74 1 ≤ w 74 1 + 900 ∧ aQ w w') := by
        intro nn
        induction nn with
        | zero => intro y2 v1 h1 hj hm; obtain ⟨j185, j186, j187, j188, j189, j190, j191, j192⟩ := hj; exfalso; omega
        | succ nn ih184 =>
          intro y2 v1 h1 hj hm
          obtain ⟨j185, j186, j187, j188, j189, j190, j191, j192⟩ := hj
          refine e_Ok.run (t' := (46, [(0, (1, 0)), (2, (0, y2))], [(0, 16), (0, y2)], v1)) 2 rfl ?_
          refine e_Ok.if2 rfl (fun h193 => ?_) (fun h193 => ?_)
          · replace h193 : (y2 : Int) ≥ 16 := h193
            refine e_Ok.run (t' := (84, [(2, (0, 0)), (0, (1, 0))], [], v1)) 2 rfl ?_
            have hL194 : ∀ (nn : Nat) (y2b : Int) (v2 : eW), e_fr kNw w v2 ∧ e_Has kTy v2 ∧ v2 74 0 = w 74 0 + 1 ∧ kI v2 OP OD CL h1 (-1) ∧ ((w 74 1 ≤ v2 74 1 ∧ v2 74 1 ≤ w 74 1 + 389 + y2b)) ∧ (0 ≤ y2b ∧ y2b ≤ 4) ∧ aQ w v2 → 4 - y2b < nn → e_Ok 20 elay kcode eI (d + 1) 259 (84, [(0, (1, 0)), (2, (0, y2b))], [], v2) (fun r w' => r = [] ∧ e_Has kTy w' ∧ (e_fr kNw w w' ∧ w' 74 0 = w 74 0 + 1) ∧ ∃ h', h ≤ h' ∧ kI w' OP OD CL h' (-1) ∧ w 74 1 ≤ w' 74 1 ∧ w' 74 1 ≤ w 74 1 + 900 ∧ aQ w w') := by
              intro nn
              induction nn with
              | zero => intro y2b v2 hj hm; obtain ⟨j196, j197, j198, j199, j200, j201, j202⟩ := hj; exfalso; omega
              | succ nn ih195 =>
                intro y2b v2 hj hm
                obtain ⟨j196, j197, j198, j199, j200, j201, j202⟩ := hj
                refine e_Ok.run (t' := (86, [(0, (1, 0)), (2, (0, y2b))], [(1, 0), (0, y2b)], v2)) 2 rfl ?_
                have h203 := (e_Has.get hT (c := 0) (k := 11) (lo := 0) (hi := 4) rfl (by decide))
                refine e_Ok.getf (z := w 0 11) rfl (el_o rfl) rfl rfl ((j196 0 11 no_cu_2).trans rfl) (by omega) ?_
                refine e_Ok.if2 rfl (fun h204 => ?_) (fun h204 => ?_)
                · replace h204 : (y2b : Int) ≥ w 0 11 := h204
                  refine e_Ok.run (t' := (104, [(0, (1, 0)), (2, (0, y2b))], [(1, 0)], v2)) 1 rfl ?_
                  refine e_Ok.getr (z := 74) rfl (el_o rfl) rfl rfl ((j196 0 5 no_cu_2).trans (Eq.trans (e_Has.eq hT rfl) (by omega))) (by omega) ?_
                  have h205 := (e_Has.get j197 (c := 74) (k := 3) (lo := 0) (hi := 1) rfl (by decide))
                  refine e_Ok.getf (z := v2 74 3) rfl (el_o rfl) rfl rfl rfl (by omega) ?_
                  refine e_Ok.if1 rfl (fun h206 => ?_) (fun h206 => ?_)
                  · replace h206 : (v2 74 3 : Int) = 0 := h206
                    refine e_Ok.run (t' := (119, [(2, (0, 0)), (0, (1, 0))], [], v2)) 2 rfl ?_
                    have hL207 : ∀ (nn : Nat) (y2c : Int) (v3 : eW), e_fr kNw w v3 ∧ e_Has kTy v3 ∧ v3 74 0 = w 74 0 + 1 ∧ kI v3 OP OD CL h1 (-1) ∧ ((w 74 1 ≤ v3 74 1 ∧ v3 74 1 ≤ w 74 1 + 398)) ∧ (0 ≤ y2c ∧ y2c ≤ 4) ∧ aQ w v3 → 4 - y2c < nn → e_Ok 20 elay kcode eI (d + 1) 259 (119, [(0, (1, 0)), (2, (0, y2c))], [], v3) (fun r w' => r = [] ∧ e_Has kTy w' ∧ (e_fr kNw w w' ∧ w' 74 0 = w 74 0 + 1) ∧ ∃ h', h ≤ h' ∧ kI w' OP OD CL h' (-1) ∧ w 74 1 ≤ w' 74 1 ∧ w' 74 1 ≤ w 74 1 + 900 ∧ aQ w w') := by
                      intro nn
                      induction nn with
                      | zero => intro y2c v3 hj hm; obtain ⟨j209, j210, j211, j212, j213, j214, j215⟩ := hj; exfalso; omega
                      | succ nn ih208 =>
                        intro y2c v3 hj hm
                        obtain ⟨j209, j210, j211, j212, j213, j214, j215⟩ := hj
                        have b0 : v3 19 0 = w 19 0 := j209 _ _ (by unfold kNw; omega)
                        refine e_Ok.run (t' := (121, [(0, (1, 0)), (2, (0, y2c))], [(1, 0), (0, y2c)], v3)) 2 rfl ?_
                        refine e_Ok.getr (z := 19) rfl (el_o rfl) rfl rfl ((j209 0 4 no_cu_2).trans (Eq.trans (e_Has.eq hT rfl) (by omega))) (by omega) ?_
                        have h216 := (e_Has.get hT (c := 19) (k := 0) (lo := 0) (hi := 4) rfl (by decide))
                        refine e_Ok.getf (z := w 19 0) rfl (el_o rfl) rfl rfl ((j209 19 0 no_cu_3).trans rfl) (by omega) ?_
                        refine e_Ok.if2 rfl (fun h217 => ?_) (fun h217 => ?_)
                        · replace h217 : (y2c : Int) ≥ w 19 0 := h217
                          refine e_Ok.run (t' := (191, [(2, (0, 0)), (0, (1, 0))], [], v3)) 2 rfl ?_
                          have hL218 : ∀ (nn : Nat) (y2d : Int) (v4 : eW), e_fr kNw w v4 ∧ e_Has kTy v4 ∧ v4 74 0 = w 74 0 + 1 ∧ kI v4 OP OD CL h1 (-1) ∧ ((w 74 1 ≤ v4 74 1 ∧ v4 74 1 ≤ w 74 1 + 398)) ∧ (0 ≤ y2d ∧ y2d ≤ 4) ∧ aQ w v4 → 4 - y2d < nn → e_Ok 20 elay kcode eI (d + 1) 259 (191, [(0, (1, 0)), (2, (0, y2d))], [], v4) (fun r w' => r = [] ∧ e_Has kTy w' ∧ (e_fr kNw w w' ∧ w' 74 0 = w 74 0 + 1) ∧ ∃ h', h ≤ h' ∧ kI w' OP OD CL h' (-1) ∧ w 74 1 ≤ w' 74 1 ∧ w' 74 1 ≤ w 74 1 + 900 ∧ aQ w w') := by
                            intro nn
                            induction nn with
                            | zero => intro y2d v4 hj hm; obtain ⟨j220, j221, j222, j223, j224, j225, j226⟩ := hj; exfalso; omega
                            | succ nn ih219 =>
                              intro y2d v4 hj hm
                              obtain ⟨j220, j221, j222, j223, j224, j225, j226⟩ := hj
                              refine e_Ok.run (t' := (193, [(0, (1, 0)), (2, (0, y2d))], [(1, 0), (0, y2d)], v4)) 2 rfl ?_
                              refine e_Ok.getf (z := w 0 11) rfl (el_o rfl) rfl rfl ((j220 0 11 no_cu_2).trans rfl) (by omega) ?_
                              refine e_Ok.if2 rfl (fun h227 => ?_) (fun h227 => ?_)
                              · replace h227 : (y2d : Int) ≥ w 0 11 := h227
                                have hfk := j223.fk; have hbl := j223.bel
                                refine e_Ok.jp rfl ⟨rfl, j221, fun b g1 g2 => ⟨(hfk.1 b g1 g2).1, fun i g3 g4 => ?_⟩, fun p g1 g2 => ?_⟩ (fun w228 hw228 => ?_)
                                · have g5 := ((hfk.1 b g1 g2).2 i g3 g4).1; have g6 := e_Has.get j221 (c := 19) (k := 1) (lo := 0) (hi := 32) rfl (by decide); unfold kn1; omega
                                · have g5 := (hfk.2 p g1 g2).1; unfold kn1; omega
                                have fHv : e_fr kHv v4 w228 := by rw [← hw228]; exact e_hk_fr _
                                have QH := kI.hk j223 hw228
                                have f229 : e_fr kNw w w228 := e_fr.trans j220 (e_fr.mono fHv (fun c k q => by exact nw_kHv q))
                                have A230 : aQ w w228 := aQ.trans j226 (aQ.q (e_fr.mono fHv (fun c k q => nq_kHv q)) j221 QH.1)
                                refine e_Ok.rets rfl rfl ?_
                                exact ⟨rfl, QH.1, ⟨f229, (fHv _ _ (by unfold kHv; omega)).trans j222⟩, h1, j188, QH, by rw [fHv _ _ (by unfold kHv; omega)]; omega, by rw [fHv _ _ (by unfold kHv; omega)]; omega, A230⟩
                              · replace h227 : (y2d : Int) < w 0 11 := by have q : ¬ ((y2d : Int) ≥ w 0 11) := h227; omega
                                refine e_Ok.run (t' := (200, [(0, (1, 0)), (2, (0, y2d))], [(1, 0)], v4)) 1 rfl ?_
                                refine e_Ok.getr (z := 9) rfl (el_o rfl) rfl rfl ((j220 0 2 no_cu_2).trans (Eq.trans (e_Has.eq hT rfl) (by omega))) (by omega) ?_
                                refine e_Ok.run (t' := (204, [(0, (1, 0)), (2, (0, y2d))], [(0, y2d), (1, 9)], v4)) 1 rfl ?_
                                refine e_Ok.aald (z := 17 * y2d + 86) rfl (el_o rfl) rfl (by omega) ((j220 9 y2d no_cu_4).trans (Eq.trans (e_Has.eq hT (k9 (by omega))) (by omega))) (by omega) ?_
                                refine e_Ok.callV rfl (by omega) rfl (lA0 (a := y2d) (by omega) (by omega)) rfl rfl (c_11 (a := y2d) j221 (by omega) (j223.arm (by omega) (by omega)).1) (fun r231 w232 h233 => ?_)
                                obtain ⟨rfl, q234f, q234T, q234x⟩ := h233
                                have f235 : e_fr kNw w w232 := e_fr.trans j220 (e_fr.mono q234f (fun c k q => by exact nw_kOl (by omega) q))
                                have A236 : aQ w w232 := aQ.trans j226 (aQ.q (e_fr.mono q234f (fun c k q => nq_kOl (by omega) q)) j221 q234T)
                                have Q237 := kI.old j223 q234T (a := y2d) (by omega) q234f q234x
                                show e_Ok 20 elay kcode eI (d + 1) 259 (208, [(0, (1, 0)), (2, (0, y2d))], [], w232) _
                                refine e_Ok.inc (z := y2d + 1) rfl rfl (by omega) (by omega) ?_
                                show e_Ok 20 elay kcode eI (d + 1) 259 (211, [(2, (0, y2d + 1)), (0, (1, 0))], [], w232) _
                                refine e_Ok.run (t' := (191, [(2, (0, y2d + 1)), (0, (1, 0))], [], w232)) 1 rfl ?_
                                refine e_Ok.sub kAlk (e_sub_of rfl ?_) (ih219 (y2d + 1) w232 ⟨f235, q234T, ((q234f _ _ (by unfold kOl; omega)).trans j222), Q237, (by rw [q234f _ _ (by unfold kOl; omega)]; omega), by omega, A236⟩ (by omega))
                                exact ⟨rfl, rfl, trivial⟩
                          refine e_Ok.sub kAlk (e_sub_of rfl ?_) (hL218 (4 + 1 : Int).toNat 0 v3 ⟨j209, j210, j211, j212, by omega, by omega, j215⟩ (by omega))
                          exact ⟨rfl, rfl, trivial⟩
                        · replace h217 : (y2c : Int) < w 19 0 := by have q : ¬ ((y2c : Int) ≥ w 19 0) := h217; omega
                          refine e_Ok.run (t' := (131, [(0, (1, 0)), (2, (0, y2c))], [(1, 0)], v3)) 1 rfl ?_
                          refine e_Ok.getr (z := 19) rfl (el_o rfl) rfl rfl ((j209 0 4 no_cu_2).trans (Eq.trans (e_Has.eq hT rfl) (by omega))) (by omega) ?_
                          refine e_Ok.run (t' := (135, [(0, (1, 0)), (2, (0, y2c))], [(0, y2c), (1, 19)], v3)) 1 rfl ?_
                          refine e_Ok.callV rfl (by omega) rfl rfl rfl rfl (c_86 j210 (by omega) j212.fk (by omega)) (fun r238 w239 h240 => ?_)
                          obtain ⟨rfl, q241f, q241T, q241x⟩ := h240
                          have f242 : e_fr kNw w w239 := e_fr.trans j209 (e_fr.mono q241f (fun c k q => by exact nw_kWy q))
                          have A243 : aQ w w239 := aQ.trans j215 (aQ.q (e_fr.mono q241f (fun c k q => nq_kWy q)) j210 q241T)
                          have Q244 := kI.wy j212 q241T q241f q241x
                          have tG : w239 74 0 = w 74 0 + 1 := (q241f _ _ (by unfold kWy; omega)).trans j211
                          have vG : w239 74 1 = v3 74 1 := q241f _ _ (by unfold kWy; omega)
                          have bG : w239 19 0 = v3 19 0 := q241f _ _ (by unfold kWy; omega)
                          show e_Ok 20 elay kcode eI (d + 1) 259 (138, [(0, (1, 0)), (2, (0, y2c))], [], w239) _
                          refine e_Ok.run (t' := (139, [(0, (1, 0)), (2, (0, y2c))], [(1, 0)], w239)) 1 rfl ?_
                          refine e_Ok.getr (z := 19) rfl (el_o rfl) rfl rfl ((q241f 0 4 no_cu_5).trans ((j209 0 4 no_cu_2).trans (Eq.trans (e_Has.eq hT rfl) (by omega)))) (by omega) ?_
                          refine e_Ok.getr (z := 22) rfl (el_o rfl) rfl rfl ((q241f 19 4 no_cu_6).trans ((j209 19 4 no_cu_3).trans (Eq.trans (e_Has.eq hT rfl) (by omega)))) (by omega) ?_
                          refine e_Ok.run (t' := (146, [(0, (1, 0)), (2, (0, y2c))], [(0, y2c), (1, 22)], w239)) 1 rfl ?_
                          have h245 := (e_Has.get hT (c := 22) (k := y2c) (lo := (-1)) (hi := 63) rfl (by decide))
                          refine e_Ok.ald (z := w 22 y2c) rfl (el_o rfl) rfl (by omega) ((q241f 22 y2c no_cu_7).trans ((j209 22 y2c no_cu_8).trans rfl)) (by omega) ?_
                          refine e_Ok.if1 rfl (fun h246 => ?_) (fun h246 => ?_)
                          · replace h246 : (w 22 y2c : Int) < 0 := h246
                            refine e_Ok.inc (z := y2c + 1) rfl rfl (by omega) (by omega) ?_
                            show e_Ok 20 elay kcode eI (d + 1) 259 (186, [(2, (0, y2c + 1)), (0, (1, 0))], [], w239) _
                            refine e_Ok.run (t' := (119, [(2, (0, y2c + 1)), (0, (1, 0))], [], w239)) 1 rfl ?_
                            refine e_Ok.sub kAlk (e_sub_of rfl ?_) (ih208 (y2c + 1) w239 ⟨f242, q241T, tG, Q244, (by omega), by omega, A243⟩ (by omega))
                            exact ⟨rfl, rfl, trivial⟩
                          · replace h246 : (w 22 y2c : Int) ≥ 0 := by have q : ¬ ((w 22 y2c : Int) < 0) := h246; omega
                            refine e_Ok.run (t' := (151, [(0, (1, 0)), (2, (0, y2c))], [(1, 0)], w239)) 1 rfl ?_
                            refine e_Ok.getr (z := 10) rfl (el_o rfl) rfl rfl ((q241f 0 3 no_cu_5).trans ((j209 0 3 no_cu_2).trans (Eq.trans (e_Has.eq hT rfl) (by omega)))) (by omega) ?_
                            refine e_Ok.run (t' := (155, [(0, (1, 0)), (2, (0, y2c))], [(1, 0), (1, 10)], w239)) 1 rfl ?_
                            refine e_Ok.getr (z := 19) rfl (el_o rfl) rfl rfl ((q241f 0 4 no_cu_5).trans ((j209 0 4 no_cu_2).trans (Eq.trans (e_Has.eq hT rfl) (by omega)))) (by omega) ?_
                            refine e_Ok.getr (z := 22) rfl (el_o rfl) rfl rfl ((q241f 19 4 no_cu_6).trans ((j209 19 4 no_cu_3).trans (Eq.trans (e_Has.eq hT rfl) (by omega)))) (by omega) ?_
                            refine e_Ok.run (t' := (162, [(0, (1, 0)), (2, (0, y2c))], [(0, y2c), (1, 22), (1, 10)], w239)) 1 rfl ?_
                            refine e_Ok.ald (z := w 22 y2c) rfl (el_o rfl) rfl (by omega) ((q241f 22 y2c no_cu_7).trans ((j209 22 y2c no_cu_8).trans rfl)) (by omega) ?_
                            refine e_Ok.run (t' := (164, [(0, (1, 0)), (2, (0, y2c))], [(1, 0), (0, w 22 y2c), (1, 10)], w239)) 1 rfl ?_
                            refine e_Ok.getr (z := 19) rfl (el_o rfl) rfl rfl ((q241f 0 4 no_cu_5).trans ((j209 0 4 no_cu_2).trans (Eq.trans (e_Has.eq hT rfl) (by omega)))) (by omega) ?_
                            refine e_Ok.run (t' := (168, [(0, (1, 0)), (2, (0, y2c))], [(0, y2c), (1, 19), (0, w 22 y2c), (1, 10)], w239)) 1 rfl ?_
                            refine e_Ok.callV rfl (by omega) rfl rfl rfl rfl (c_87 (by omega) q241T (by omega) Q244.fk (by omega)) (fun r247 w248 h249 => ?_)
                            obtain ⟨z251, rfl, rfl, q250r⟩ := h249
                            show e_Ok 20 elay kcode eI (d + 1) 259 (171, [(0, (1, 0)), (2, (0, y2c))], [(0, z251), (0, w 22 y2c), (1, 10)], w239) _
                            have hJ254 : ∀ m253 : Int, 0 ≤ m253 ∧ m253 ≤ 1 → e_Ok 20 elay kcode eI (d + 1) 259 (179, [(0, (1, 0)), (2, (0, y2c))], [(0, m253), (0, w 22 y2c), (1, 10)], w239) (fun r w' => r = [] ∧ e_Has kTy w' ∧ (e_fr kNw w w' ∧ w' 74 0 = w 74 0 + 1) ∧ ∃ h', h ≤ h' ∧ kI w' OP OD CL h' (-1) ∧ w 74 1 ≤ w' 74 1 ∧ w' 74 1 ≤ w 74 1 + 900 ∧ aQ w w') := by
                              intro m253 m253r
                              refine e_Ok.callV rfl (by omega) rfl rfl rfl rfl (c_113 (by omega) q241T (by omega) (by omega) Q244.pf) (fun r255 w256 h257 => ?_)
                              obtain ⟨z259, rfl, q258f, q258T, q258r, q258x⟩ := h257
                              have f260 : e_fr kNw w w256 := e_fr.trans f242 (e_fr.mono q258f (fun c k q => by exact nw_kPo q))
                              have A261 : aQ w w256 := aQ.trans A243 (aQ.q (e_fr.mono q258f (fun c k q => nq_kPo q)) q241T q258T)
                              have Q262 := kI.po Q244 q258T (e_fr.mono q258f (fun c k g => ph_kPo g)) q258x
                              show e_Ok 20 elay kcode eI (d + 1) 259 (182, [(0, (1, 0)), (2, (0, y2c))], [(0, z259)], w256) _
                              refine e_Ok.run (t' := (183, [(0, (1, 0)), (2, (0, y2c))], [], w256)) 1 rfl ?_
                              refine e_Ok.inc (z := y2c + 1) rfl rfl (by omega) (by omega) ?_
                              show e_Ok 20 elay kcode eI (d + 1) 259 (186, [(2, (0, y2c + 1)), (0, (1, 0))], [], w256) _
                              refine e_Ok.run (t' := (119, [(2, (0, y2c + 1)), (0, (1, 0))], [], w256)) 1 rfl ?_
                              refine e_Ok.sub kAlk (e_sub_of rfl ?_) (ih208 (y2c + 1) w256 ⟨f260, q258T, ((q258f _ _ (by unfold kPo; omega)).trans tG), Q262, (by rw [q258f _ _ (by unfold kPo; omega)]; omega), by omega, A261⟩ (by omega))
                              exact ⟨rfl, rfl, trivial⟩
                            refine e_Ok.if1 rfl (fun h252 => ?_) (fun h252 => ?_)
                            · exact e_Ok.run 1 rfl (hJ254 0 (by omega))
                            · exact e_Ok.run 2 rfl (hJ254 1 (by omega))
                    refine e_Ok.sub kAlk (e_sub_of rfl ?_) (hL207 (4 + 1 : Int).toNat 0 v2 ⟨j196, j197, j198, j199, (by omega), by omega, j202⟩ (by omega))
                    exact ⟨rfl, rfl, trivial⟩
                  · replace h206 : (v2 74 3 : Int) ≠ 0 := by have q : ¬ ((v2 74 3 : Int) = 0) := h206; omega
                    refine e_Ok.run (t' := (114, [(0, (1, 0)), (2, (0, y2b))], [(1, 0)], v2)) 1 rfl ?_
                    refine e_Ok.callV rfl (by omega) rfl rfl rfl rfl (c_262 (by omega) j197 j199 (by omega)) (fun r263 w264 h265 => ?_)
                    obtain ⟨rfl, q266T, q266f, q266x⟩ := h265
                    have f267 : e_fr kNw w w264 := e_fr.trans j196 (e_fr.mono q266f.1 (fun c k q => by exact nq_nw q))
                    have A268 : aQ w w264 := aQ.trans j202 (aQ.q q266f.1 j197 q266T)
                    show e_Ok 20 elay kcode eI (d + 1) 259 (117, [(0, (1, 0)), (2, (0, y2b))], [], w264) _
                    refine e_Ok.run (t' := (119, [(2, (0, 0)), (0, (1, 0))], [], w264)) 2 rfl ?_
                    have hL269 : ∀ (nn : Nat) (y2c : Int) (v3 : eW), e_fr kNw w v3 ∧ e_Has kTy v3 ∧ v3 74 0 = w 74 0 + 1 ∧ kI v3 OP OD CL h1 (-1) ∧ ((w 74 1 ≤ v3 74 1 ∧ v3 74 1 ≤ w 74 1 + 398)) ∧ (0 ≤ y2c ∧ y2c ≤ 4) ∧ aQ w v3 → 4 - y2c < nn → e_Ok 20 elay kcode eI (d + 1) 259 (119, [(0, (1, 0)), (2, (0, y2c))], [], v3) (fun r w' => r = [] ∧ e_Has kTy w' ∧ (e_fr kNw w w' ∧ w' 74 0 = w 74 0 + 1) ∧ ∃ h', h ≤ h' ∧ kI w' OP OD CL h' (-1) ∧ w 74 1 ≤ w' 74 1 ∧ w' 74 1 ≤ w 74 1 + 900 ∧ aQ w w') := by
                      intro nn
                      induction nn with
                      | zero => intro y2c v3 hj hm; obtain ⟨j271, j272, j273, j274, j275, j276, j277⟩ := hj; exfalso; omega
                      | succ nn ih270 =>
                        intro y2c v3 hj hm
                        obtain ⟨j271, j272, j273, j274, j275, j276, j277⟩ := hj
                        have b0 : v3 19 0 = w 19 0 := j271 _ _ (by unfold kNw; omega)
                        refine e_Ok.run (t' := (121, [(0, (1, 0)), (2, (0, y2c))], [(1, 0), (0, y2c)], v3)) 2 rfl ?_
                        refine e_Ok.getr (z := 19) rfl (el_o rfl) rfl rfl ((j271 0 4 no_cu_2).trans (Eq.trans (e_Has.eq hT rfl) (by omega))) (by omega) ?_
                        have h278 := (e_Has.get hT (c := 19) (k := 0) (lo := 0) (hi := 4) rfl (by decide))
                        refine e_Ok.getf (z := w 19 0) rfl (el_o rfl) rfl rfl ((j271 19 0 no_cu_3).trans rfl) (by omega) ?_
                        refine e_Ok.if2 rfl (fun h279 => ?_) (fun h279 => ?_)
                        · replace h279 : (y2c : Int) ≥ w 19 0 := h279
                          refine e_Ok.run (t' := (191, [(2, (0, 0)), (0, (1, 0))], [], v3)) 2 rfl ?_
                          have hL280 : ∀ (nn : Nat) (y2d : Int) (v4 : eW), e_fr kNw w v4 ∧ e_Has kTy v4 ∧ v4 74 0 = w 74 0 + 1 ∧ kI v4 OP OD CL h1 (-1) ∧ ((w 74 1 ≤ v4 74 1 ∧ v4 74 1 ≤ w 74 1 + 398)) ∧ (0 ≤ y2d ∧ y2d ≤ 4) ∧ aQ w v4 → 4 - y2d < nn → e_Ok 20 elay kcode eI (d + 1) 259 (191, [(0, (1, 0)), (2, (0, y2d))], [], v4) (fun r w' => r = [] ∧ e_Has kTy w' ∧ (e_fr kNw w w' ∧ w' 74 0 = w 74 0 + 1) ∧ ∃ h', h ≤ h' ∧ kI w' OP OD CL h' (-1) ∧ w 74 1 ≤ w' 74 1 ∧ w' 74 1 ≤ w 74 1 + 900 ∧ aQ w w') := by
                            intro nn
                            induction nn with
                            | zero => intro y2d v4 hj hm; obtain ⟨j282, j283, j284, j285, j286, j287, j288⟩ := hj; exfalso; omega
                            | succ nn ih281 =>
                              intro y2d v4 hj hm
                              obtain ⟨j282, j283, j284, j285, j286, j287, j288⟩ := hj
                              refine e_Ok.run (t' := (193, [(0, (1, 0)), (2, (0, y2d))], [(1, 0), (0, y2d)], v4)) 2 rfl ?_
                              refine e_Ok.getf (z := w 0 11) rfl (el_o rfl) rfl rfl ((j282 0 11 no_cu_2).trans rfl) (by omega) ?_
                              refine e_Ok.if2 rfl (fun h289 => ?_) (fun h289 => ?_)
                              · replace h289 : (y2d : Int) ≥ w 0 11 := h289
                                have hfk := j285.fk; have hbl := j285.bel
                                refine e_Ok.jp rfl ⟨rfl, j283, fun b g1 g2 => ⟨(hfk.1 b g1 g2).1, fun i g3 g4 => ?_⟩, fun p g1 g2 => ?_⟩ (fun w290 hw290 => ?_)
                                · have g5 := ((hfk.1 b g1 g2).2 i g3 g4).1; have g6 := e_Has.get j283 (c := 19) (k := 1) (lo := 0) (hi := 32) rfl (by decide); unfold kn1; omega
                                · have g5 := (hfk.2 p g1 g2).1; unfold kn1; omega
                                have fHv : e_fr kHv v4 w290 := by rw [← hw290]; exact e_hk_fr _
                                have QH := kI.hk j285 hw290
                                have f291 : e_fr kNw w w290 := e_fr.trans j282 (e_fr.mono fHv (fun c k q => by exact nw_kHv q))
                                have A292 : aQ w w290 := aQ.trans j288 (aQ.q (e_fr.mono fHv (fun c k q => nq_kHv q)) j283 QH.1)
                                refine e_Ok.rets rfl rfl ?_
                                exact ⟨rfl, QH.1, ⟨f291, (fHv _ _ (by unfold kHv; omega)).trans j284⟩, h1, j188, QH, by rw [fHv _ _ (by unfold kHv; omega)]; omega, by rw [fHv _ _ (by unfold kHv; omega)]; omega, A292⟩
                              · replace h289 : (y2d : Int) < w 0 11 := by have q : ¬ ((y2d : Int) ≥ w 0 11) := h289; omega
                                refine e_Ok.run (t' := (200, [(0, (1, 0)), (2, (0, y2d))], [(1, 0)], v4)) 1 rfl ?_
                                refine e_Ok.getr (z := 9) rfl (el_o rfl) rfl rfl ((j282 0 2 no_cu_2).trans (Eq.trans (e_Has.eq hT rfl) (by omega))) (by omega) ?_
                                refine e_Ok.run (t' := (204, [(0, (1, 0)), (2, (0, y2d))], [(0, y2d), (1, 9)], v4)) 1 rfl ?_
                                refine e_Ok.aald (z := 17 * y2d + 86) rfl (el_o rfl) rfl (by omega) ((j282 9 y2d no_cu_4).trans (Eq.trans (e_Has.eq hT (k9 (by omega))) (by omega))) (by omega) ?_
                                refine e_Ok.callV rfl (by omega) rfl (lA0 (a := y2d) (by omega) (by omega)) rfl rfl (c_11 (a := y2d) j283 (by omega) (j285.arm (by omega) (by omega)).1) (fun r293 w294 h295 => ?_)
                                obtain ⟨rfl, q296f, q296T, q296x⟩ := h295
                                have f297 : e_fr kNw w w294 := e_fr.trans j282 (e_fr.mono q296f (fun c k q => by exact nw_kOl (by omega) q))
                                have A298 : aQ w w294 := aQ.trans j288 (aQ.q (e_fr.mono q296f (fun c k q => nq_kOl (by omega) q)) j283 q296T)
                                have Q299 := kI.old j285 q296T (a := y2d) (by omega) q296f q296x
                                show e_Ok 20 elay kcode eI (d + 1) 259 (208, [(0, (1, 0)), (2, (0, y2d))], [], w294) _
                                refine e_Ok.inc (z := y2d + 1) rfl rfl (by omega) (by omega) ?_
                                show e_Ok 20 elay kcode eI (d + 1) 259 (211, [(2, (0, y2d + 1)), (0, (1, 0))], [], w294) _
                                refine e_Ok.run (t' := (191, [(2, (0, y2d + 1)), (0, (1, 0))], [], w294)) 1 rfl ?_
                                refine e_Ok.sub kAlk (e_sub_of rfl ?_) (ih281 (y2d + 1) w294 ⟨f297, q296T, ((q296f _ _ (by unfold kOl; omega)).trans j284), Q299, (by rw [q296f _ _ (by unfold kOl; omega)]; omega), by omega, A298⟩ (by omega))
                                exact ⟨rfl, rfl, trivial⟩
                          refine e_Ok.sub kAlk (e_sub_of rfl ?_) (hL280 (4 + 1 : Int).toNat 0 v3 ⟨j271, j272, j273, j274, by omega, by omega, j277⟩ (by omega))
                          exact ⟨rfl, rfl, trivial⟩
                        · replace h279 : (y2c : Int) < w 19 0 := by have q : ¬ ((y2c : Int) ≥ w 19 0) := h279; omega
                          refine e_Ok.run (t' := (131, [(0, (1, 0)), (2, (0, y2c))], [(1, 0)], v3)) 1 rfl ?_
                          refine e_Ok.getr (z := 19) rfl (el_o rfl) rfl rfl ((j271 0 4 no_cu_2).trans (Eq.trans (e_Has.eq hT rfl) (by omega))) (by omega) ?_
                          refine e_Ok.run (t' := (135, [(0, (1, 0)), (2, (0, y2c))], [(0, y2c), (1, 19)], v3)) 1 rfl ?_
                          refine e_Ok.callV rfl (by omega) rfl rfl rfl rfl (c_86 j272 (by omega) j274.fk (by omega)) (fun r300 w301 h302 => ?_)
                          obtain ⟨rfl, q303f, q303T, q303x⟩ := h302
                          have f304 : e_fr kNw w w301 := e_fr.trans j271 (e_fr.mono q303f (fun c k q => by exact nw_kWy q))
                          have A305 : aQ w w301 := aQ.trans j277 (aQ.q (e_fr.mono q303f (fun c k q => nq_kWy q)) j272 q303T)
                          have Q306 := kI.wy j274 q303T q303f q303x
                          have tG : w301 74 0 = w 74 0 + 1 := (q303f _ _ (by unfold kWy; omega)).trans j273
                          have vG : w301 74 1 = v3 74 1 := q303f _ _ (by unfold kWy; omega)
                          have bG : w301 19 0 = v3 19 0 := q303f _ _ (by unfold kWy; omega)
                          show e_Ok 20 elay kcode eI (d + 1) 259 (138, [(0, (1, 0)), (2, (0, y2c))], [], w301) _
                          refine e_Ok.run (t' := (139, [(0, (1, 0)), (2, (0, y2c))], [(1, 0)], w301)) 1 rfl ?_
                          refine e_Ok.getr (z := 19) rfl (el_o rfl) rfl rfl ((q303f 0 4 no_cu_5).trans ((j271 0 4 no_cu_2).trans (Eq.trans (e_Has.eq hT rfl) (by omega)))) (by omega) ?_
                          refine e_Ok.getr (z := 22) rfl (el_o rfl) rfl rfl ((q303f 19 4 no_cu_6).trans ((j271 19 4 no_cu_3).trans (Eq.trans (e_Has.eq hT rfl) (by omega)))) (by omega) ?_
                          refine e_Ok.run (t' := (146, [(0, (1, 0)), (2, (0, y2c))], [(0, y2c), (1, 22)], w301)) 1 rfl ?_
                          have h307 := (e_Has.get hT (c := 22) (k := y2c) (lo := (-1)) (hi := 63) rfl (by decide))
                          refine e_Ok.ald (z := w 22 y2c) rfl (el_o rfl) rfl (by omega) ((q303f 22 y2c no_cu_7).trans ((j271 22 y2c no_cu_8).trans rfl)) (by omega) ?_
                          refine e_Ok.if1 rfl (fun h308 => ?_) (fun h308 => ?_)
                          · replace h308 : (w 22 y2c : Int) < 0 := h308
                            refine e_Ok.inc (z := y2c + 1) rfl rfl (by omega) (by omega) ?_
                            show e_Ok 20 elay kcode eI (d + 1) 259 (186, [(2, (0, y2c + 1)), (0, (1, 0))], [], w301) _
                            refine e_Ok.run (t' := (119, [(2, (0, y2c + 1)), (0, (1, 0))], [], w301)) 1 rfl ?_
                            refine e_Ok.sub kAlk (e_sub_of rfl ?_) (ih270 (y2c + 1) w301 ⟨f304, q303T, tG, Q306, (by omega), by omega, A305⟩ (by omega))
                            exact ⟨rfl, rfl, trivial⟩
                          · replace h308 : (w 22 y2c : Int) ≥ 0 := by have q : ¬ ((w 22 y2c : Int) < 0) := h308; omega
                            refine e_Ok.run (t' := (151, [(0, (1, 0)), (2, (0, y2c))], [(1, 0)], w301)) 1 rfl ?_
                            refine e_Ok.getr (z := 10) rfl (el_o rfl) rfl rfl ((q303f 0 3 no_cu_5).trans ((j271 0 3 no_cu_2).trans (Eq.trans (e_Has.eq hT rfl) (by omega)))) (by omega) ?_
                            refine e_Ok.run (t' := (155, [(0, (1, 0)), (2, (0, y2c))], [(1, 0), (1, 10)], w301)) 1 rfl ?_
                            refine e_Ok.getr (z := 19) rfl (el_o rfl) rfl rfl ((q303f 0 4 no_cu_5).trans ((j271 0 4 no_cu_2).trans (Eq.trans (e_Has.eq hT rfl) (by omega)))) (by omega) ?_
                            refine e_Ok.getr (z := 22) rfl (el_o rfl) rfl rfl ((q303f 19 4 no_cu_6).trans ((j271 19 4 no_cu_3).trans (Eq.trans (e_Has.eq hT rfl) (by omega)))) (by omega) ?_
                            refine e_Ok.run (t' := (162, [(0, (1, 0)), (2, (0, y2c))], [(0, y2c), (1, 22), (1, 10)], w301)) 1 rfl ?_
                            refine e_Ok.ald (z := w 22 y2c) rfl (el_o rfl) rfl (by omega) ((q303f 22 y2c no_cu_7).trans ((j271 22 y2c no_cu_8).trans rfl)) (by omega) ?_
                            refine e_Ok.run (t' := (164, [(0, (1, 0)), (2, (0, y2c))], [(1, 0), (0, w 22 y2c), (1, 10)], w301)) 1 rfl ?_
                            refine e_Ok.getr (z := 19) rfl (el_o rfl) rfl rfl ((q303f 0 4 no_cu_5).trans ((j271 0 4 no_cu_2).trans (Eq.trans (e_Has.eq hT rfl) (by omega)))) (by omega) ?_
                            refine e_Ok.run (t' := (168, [(0, (1, 0)), (2, (0, y2c))], [(0, y2c), (1, 19), (0, w 22 y2c), (1, 10)], w301)) 1 rfl ?_
                            refine e_Ok.callV rfl (by omega) rfl rfl rfl rfl (c_87 (by omega) q303T (by omega) Q306.fk (by omega)) (fun r309 w310 h311 => ?_)
                            obtain ⟨z313, rfl, rfl, q312r⟩ := h311
                            show e_Ok 20 elay kcode eI (d + 1) 259 (171, [(0, (1, 0)), (2, (0, y2c))], [(0, z313), (0, w 22 y2c), (1, 10)], w301) _
                            have hJ316 : ∀ m315 : Int, 0 ≤ m315 ∧ m315 ≤ 1 → e_Ok 20 elay kcode eI (d + 1) 259 (179, [(0, (1, 0)), (2, (0, y2c))], [(0, m315), (0, w 22 y2c), (1, 10)], w301) (fun r w' => r = [] ∧ e_Has kTy w' ∧ (e_fr kNw w w' ∧ w' 74 0 = w 74 0 + 1) ∧ ∃ h', h ≤ h' ∧ kI w' OP OD CL h' (-1) ∧ w 74 1 ≤ w' 74 1 ∧ w' 74 1 ≤ w 74 1 + 900 ∧ aQ w w') := by
                              intro m315 m315r
                              refine e_Ok.callV rfl (by omega) rfl rfl rfl rfl (c_113 (by omega) q303T (by omega) (by omega) Q306.pf) (fun r317 w318 h319 => ?_)
                              obtain ⟨z321, rfl, q320f, q320T, q320r, q320x⟩ := h319
                              have f322 : e_fr kNw w w318 := e_fr.trans f304 (e_fr.mono q320f (fun c k q => by exact nw_kPo q))
                              have A323 : aQ w w318 := aQ.trans A305 (aQ.q (e_fr.mono q320f (fun c k q => nq_kPo q)) q303T q320T)
                              have Q324 := kI.po Q306 q320T (e_fr.mono q320f (fun c k g => ph_kPo g)) q320x
                              show e_Ok 20 elay kcode eI (d + 1) 259 (182, [(0, (1, 0)), (2, (0, y2c))], [(0, z321)], w318) _
                              refine e_Ok.run (t' := (183, [(0, (1, 0)), (2, (0, y2c))], [], w318)) 1 rfl ?_
                              refine e_Ok.inc (z := y2c + 1) rfl rfl (by omega) (by omega) ?_
                              show e_Ok 20 elay kcode eI (d + 1) 259 (186, [(2, (0, y2c + 1)), (0, (1, 0))], [], w318) _
                              refine e_Ok.run (t' := (119, [(2, (0, y2c + 1)), (0, (1, 0))], [], w318)) 1 rfl ?_
                              refine e_Ok.sub kAlk (e_sub_of rfl ?_) (ih270 (y2c + 1) w318 ⟨f322, q320T, ((q320f _ _ (by unfold kPo; omega)).trans tG), Q324, (by rw [q320f _ _ (by unfold kPo; omega)]; omega), by omega, A323⟩ (by omega))
                              exact ⟨rfl, rfl, trivial⟩
                            refine e_Ok.if1 rfl (fun h314 => ?_) (fun h314 => ?_)
                            · exact e_Ok.run 1 rfl (hJ316 0 (by omega))
                            · exact e_Ok.run 2 rfl (hJ316 1 (by omega))
                    refine e_Ok.sub kAlk (e_sub_of rfl ?_) (hL269 (4 + 1 : Int).toNat 0 w264 ⟨f267, q266T, (q266f.2.trans j198), q266x.1, (by have g := q266x.2; omega), by omega, A268⟩ (by omega))
                    exact ⟨rfl, rfl, trivial⟩
                · replace h204 : (y2b : Int) < w 0 11 := by have q : ¬ ((y2b : Int) ≥ w 0 11) := h204; omega
                  refine e_Ok.run (t' := (94, [(0, (1, 0)), (2, (0, y2b))], [(0, y2b), (1, 0)], v2)) 2 rfl ?_
                  refine e_Ok.callV rfl (by omega) rfl rfl rfl rfl (c_260 (by omega) (a := y2b) j197 (by omega) j199 (by omega)) (fun r325 w326 h327 => ?_)
                  obtain ⟨rfl, q329T, q329f, q329x⟩ := h327
                  have f331 : e_fr kNw w w326 := e_fr.trans j196 (e_fr.mono q329f.1 (fun c k q => by exact q))
                  have A332 : aQ w w326 := aQ.trans j202 (q329x.2.2.2)
                  show e_Ok 20 elay kcode eI (d + 1) 259 (97, [(0, (1, 0)), (2, (0, y2b))], [], w326) _
                  refine e_Ok.inc (z := y2b + 1) rfl rfl (by omega) (by omega) ?_
                  show e_Ok 20 elay kcode eI (d + 1) 259 (100, [(2, (0, y2b + 1)), (0, (1, 0))], [], w326) _
                  refine e_Ok.run (t' := (84, [(2, (0, y2b + 1)), (0, (1, 0))], [], w326)) 1 rfl ?_
                  refine e_Ok.sub kAlk (e_sub_of rfl ?_) (ih195 (y2b + 1) w326 ⟨f331, q329T, (q329f.2.trans j198), q329x.1, (by have g := q329x.2; omega), by omega, A332⟩ (by omega))
                  exact ⟨rfl, rfl, trivial⟩
            refine e_Ok.sub kAlk (e_sub_of rfl ?_) (hL194 (4 + 1 : Int).toNat 0 v1 ⟨j185, j186, j187, j189, by omega, by omega, j192⟩ (by omega))
            exact ⟨rfl, rfl, trivial⟩
          · replace h193 : (y2 : Int) < 16 := by have q : ¬ ((y2 : Int) ≥ 16) := h193; omega
            refine e_Ok.run (t' := (50, [(0, (1, 0)), (2, (0, y2))], [(1, 0)], v1)) 1 rfl ?_
            refine e_Ok.getr (z := 8) rfl (el_o rfl) rfl rfl ((j185 0 1 no_cu_2).trans (Eq.trans (e_Has.eq hT rfl) (by omega))) (by omega) ?_
            refine e_Ok.run (t' := (54, [(0, (1, 0)), (2, (0, y2))], [(0, y2), (1, 8)], v1)) 1 rfl ?_
            refine e_Ok.callV rfl (by omega) rfl rfl rfl rfl (c_42 (by omega) j186 (by omega) j189) (fun r333 w334 h335 => ?_)
            obtain ⟨z336, rfl, rfl, q337r, q337x⟩ := h335
            show e_Ok 20 elay kcode eI (d + 1) 259 (57, [(0, (1, 0)), (2, (0, y2))], [(0, z336)], v1) _
            refine e_Ok.if1 rfl (fun h339 => ?_) (fun h339 => ?_)
            · replace h339 : (z336 : Int) = 0 := h339
              refine e_Ok.inc (z := y2 + 1) rfl rfl (by omega) (by omega) ?_
              show e_Ok 20 elay kcode eI (d + 1) 259 (79, [(2, (0, y2 + 1)), (0, (1, 0))], [], v1) _
              refine e_Ok.run (t' := (43, [(2, (0, y2 + 1)), (0, (1, 0))], [], v1)) 1 rfl ?_
              refine e_Ok.sub kAlk (e_sub_of rfl ?_) (ih184 (y2 + 1) v1 h1 ⟨j185, j186, j187, j188, j189, (by omega), by omega, j192⟩ (by omega))
              exact ⟨rfl, rfl, trivial⟩
            · replace h339 : (z336 : Int) ≠ 0 := by have q : ¬ ((z336 : Int) = 0) := h339; omega
              refine e_Ok.run (t' := (61, [(0, (1, 0)), (2, (0, y2))], [(1, 0)], v1)) 1 rfl ?_
              refine e_Ok.getr (z := 8) rfl (el_o rfl) rfl rfl ((j185 0 1 no_cu_2).trans (Eq.trans (e_Has.eq hT rfl) (by omega))) (by omega) ?_
              refine e_Ok.run (t' := (65, [(0, (1, 0)), (2, (0, y2))], [(1, 0), (1, 8)], v1)) 1 rfl ?_
              refine e_Ok.getr (z := 8) rfl (el_o rfl) rfl rfl ((j185 0 1 no_cu_2).trans (Eq.trans (e_Has.eq hT rfl) (by omega))) (by omega) ?_
              refine e_Ok.getr (z := 82) rfl (el_o rfl) rfl rfl ((j185 8 4 no_cu_9).trans (Eq.trans (e_Has.eq hT rfl) (by omega))) (by omega) ?_
              refine e_Ok.run (t' := (72, [(0, (1, 0)), (2, (0, y2))], [(0, y2), (1, 82), (1, 8)], v1)) 1 rfl ?_
              refine e_Ok.aald (z := 6 * y2 + 154) rfl (el_o rfl) rfl (by omega) ((j185 82 y2 no_cu_10).trans (Eq.trans (e_Has.eq hT (k82 (by omega))) (by omega))) (by omega) ?_
              have hact := q337x (by omega)
              have tq := j189.ts (t := y2) (by omega) (by omega)
              have ta := tq.1.1 (by omega) (by omega)
              have tb := e_Has.get j186 (c := 6 * y2 + 154) (k := 2) (lo := -1) (hi := 3) (kT_2 (t := y2) rfl (by omega)) (by decide)
              refine e_Ok.callV rfl (by omega) rfl rfl rfl rfl (c_43 (by omega) j186 (by omega) (kI.weak j189 (by decide)) (a := v1 (6 * y2 + 154) 2) (by omega) rfl rfl (by omega) hact ((tq.2 hact.1 hact.2).2 (by omega)) (by omega)) (fun r340 w341 h342 => ?_)
              obtain ⟨rfl, q343T, q343f, q343h, q343x⟩ := h342
              have f344 : e_fr kNw w w341 := e_fr.trans j185 (e_fr.mono q343f.1 (fun c k q => by exact nq_nw q))
              have A345 : aQ w w341 := aQ.trans j192 (aQ.q q343f.1 j186 q343T)
              show e_Ok 20 elay kcode eI (d + 1) 259 (76, [(0, (1, 0)), (2, (0, y2))], [], w341) _
              refine e_Ok.inc (z := y2 + 1) rfl rfl (by omega) (by omega) ?_
              show e_Ok 20 elay kcode eI (d + 1) 259 (79, [(2, (0, y2 + 1)), (0, (1, 0))], [], w341) _
              refine e_Ok.run (t' := (43, [(2, (0, y2 + 1)), (0, (1, 0))], [], w341)) 1 rfl ?_
              refine e_Ok.sub kAlk (e_sub_of rfl ?_) (ih184 (y2 + 1) w341 q343h ⟨f344, q343T, (q343f.2.trans j187), (Int.le_trans j188 q343x.1), q343x.2.1, (by have g := q343x.2.2; omega), by omega, A345⟩ (by omega))
              exact ⟨rfl, rfl, trivial⟩
      refine e_Ok.sub kAlk (e_sub_of rfl ?_) (hL183 (16 + 1 : Int).toNat 0 w6 h ⟨f10, q9T, tB, Int.le_refl h, Q12, (by omega), by omega, A11⟩ (by omega))
      exact ⟨rfl, rfl, trivial⟩
    · replace h182 : (z8 : Int) ≥ 0 := by have q : ¬ ((z8 : Int) < 0) := h182; omega
      refine e_Ok.run (t' := (38, [(1, (0, z8)), (0, (1, 0))], [(0, z8), (0, 1), (1, 0)], w6)) 3 rfl ?_
      refine e_Ok.callV rfl (by omega) rfl rfl rfl rfl (c_265 (by omega) q9T (by omega) (by omega) Q12 (by omega)) (fun r346 w347 h348 => ?_)
      obtain ⟨rfl, q349T, q349f, q349x⟩ := h348
      have f350 : e_fr kNw w w347 := e_fr.trans f10 (e_fr.mono q349f.1 (fun c k q => by exact nq_nw q))
      have A351 : aQ w w347 := aQ.trans A11 (aQ.q q349f.1 q9T q349T)
      show e_Ok 20 elay kcode eI (d + 1) 259 (41, [(1, (0, z8)), (0, (1, 0))], [], w347) _
      refine e_Ok.run (t' := (43, [(2, (0, 0)), (1, (0, z8)), (0, (1, 0))], [], w347)) 2 rfl ?_
      have hL352 : ∀ (nn : Nat) (y2 : Int) (v1 : eW) (h1 : Int), e_fr kNw w v1 ∧ e_Has kTy v1 ∧ v1 74 0 = w 74 0 + 1 ∧ h ≤ h1 ∧ kI v1 OP OD CL h1 (-1) ∧ ((w 74 1 ≤ v1 74 1 ∧ v1 74 1 ≤ w 74 1 + 5 + 24 * y2)) ∧ (0 ≤ y2 ∧ y2 ≤ 16) ∧ aQ w v1 → 16 - y2 < nn → e_Ok 20 elay kcode eI (d + 1) 259 (43, [(0, (1, 0)), (2, (0, y2))], [], v1) (fun r w' => r = [] ∧ e_Has kTy w' ∧ (e_fr kNw w w' ∧ w' 74 0 = w 74 0 + 1) ∧ ∃ h', h ≤ h' ∧ kI w' OP OD CL h' (-1) ∧ w 74 1 ≤ w' 74 1 ∧ w' 74 1 ≤ w 74 1 + 900 ∧ aQ w w') := by
        intro nn
        induction nn with
        | zero => intro y2 v1 h1 hj hm; obtain ⟨j354, j355, j356, j357, j358, j359, j360, j361⟩ := hj; exfalso; omega
        | succ nn ih353 =>
          intro y2 v1 h1 hj hm
          obtain ⟨j354, j355, j356, j357, j358, j359, j360, j361⟩ := hj
          refine e_Ok.run (t' := (46, [(0, (1, 0)), (2, (0, y2))], [(0, 16), (0, y2)], v1)) 2 rfl ?_
          refine e_Ok.if2 rfl (fun h362 => ?_) (fun h362 => ?_)
          · replace h362 : (y2 : Int) ≥ 16 := h362
            refine e_Ok.run (t' := (84, [(2, (0, 0)), (0, (1, 0))], [], v1)) 2 rfl ?_
            have hL363 : ∀ (nn : Nat) (y2b : Int) (v2 : eW), e_fr kNw w v2 ∧ e_Has kTy v2 ∧ v2 74 0 = w 74 0 + 1 ∧ kI v2 OP OD CL h1 (-1) ∧ ((w 74 1 ≤ v2 74 1 ∧ v2 74 1 ≤ w 74 1 + 389 + y2b)) ∧ (0 ≤ y2b ∧ y2b ≤ 4) ∧ aQ w v2 → 4 - y2b < nn → e_Ok 20 elay kcode eI (d + 1) 259 (84, [(0, (1, 0)), (2, (0, y2b))], [], v2) (fun r w' => r = [] ∧ e_Has kTy w' ∧ (e_fr kNw w w' ∧ w' 74 0 = w 74 0 + 1) ∧ ∃ h', h ≤ h' ∧ kI w' OP OD CL h' (-1) ∧ w 74 1 ≤ w' 74 1 ∧ w' 74 1 ≤ w 74 1 + 900 ∧ aQ w w') := by
              intro nn
              induction nn with
              | zero => intro y2b v2 hj hm; obtain ⟨j365, j366, j367, j368, j369, j370, j371⟩ := hj; exfalso; omega
              | succ nn ih364 =>
                intro y2b v2 hj hm
                obtain ⟨j365, j366, j367, j368, j369, j370, j371⟩ := hj
                refine e_Ok.run (t' := (86, [(0, (1, 0)), (2, (0, y2b))], [(1, 0), (0, y2b)], v2)) 2 rfl ?_
                have h372 := (e_Has.get hT (c := 0) (k := 11) (lo := 0) (hi := 4) rfl (by decide))
                refine e_Ok.getf (z := w 0 11) rfl (el_o rfl) rfl rfl ((j365 0 11 no_cu_2).trans rfl) (by omega) ?_
                refine e_Ok.if2 rfl (fun h373 => ?_) (fun h373 => ?_)
                · replace h373 : (y2b : Int) ≥ w 0 11 := h373
                  refine e_Ok.run (t' := (104, [(0, (1, 0)), (2, (0, y2b))], [(1, 0)], v2)) 1 rfl ?_
                  refine e_Ok.getr (z := 74) rfl (el_o rfl) rfl rfl ((j365 0 5 no_cu_2).trans (Eq.trans (e_Has.eq hT rfl) (by omega))) (by omega) ?_
                  have h374 := (e_Has.get j366 (c := 74) (k := 3) (lo := 0) (hi := 1) rfl (by decide))
                  refine e_Ok.getf (z := v2 74 3) rfl (el_o rfl) rfl rfl rfl (by omega) ?_
                  refine e_Ok.if1 rfl (fun h375 => ?_) (fun h375 => ?_)
                  · replace h375 : (v2 74 3 : Int) = 0 := h375
                    refine e_Ok.run (t' := (119, [(2, (0, 0)), (0, (1, 0))], [], v2)) 2 rfl ?_
                    have hL376 : ∀ (nn : Nat) (y2c : Int) (v3 : eW), e_fr kNw w v3 ∧ e_Has kTy v3 ∧ v3 74 0 = w 74 0 + 1 ∧ kI v3 OP OD CL h1 (-1) ∧ ((w 74 1 ≤ v3 74 1 ∧ v3 74 1 ≤ w 74 1 + 398)) ∧ (0 ≤ y2c ∧ y2c ≤ 4) ∧ aQ w v3 → 4 - y2c < nn → e_Ok 20 elay kcode eI (d + 1) 259 (119, [(0, (1, 0)), (2, (0, y2c))], [], v3) (fun r w' => r = [] ∧ e_Has kTy w' ∧ (e_fr kNw w w' ∧ w' 74 0 = w 74 0 + 1) ∧ ∃ h', h ≤ h' ∧ kI w' OP OD CL h' (-1) ∧ w 74 1 ≤ w' 74 1 ∧ w' 74 1 ≤ w 74 1 + 900 ∧ aQ w w') := by
                      intro nn
                      induction nn with
                      | zero => intro y2c v3 hj hm; obtain ⟨j378, j379, j380, j381, j382, j383, j384⟩ := hj; exfalso; omega
                      | succ nn ih377 =>
                        intro y2c v3 hj hm
                        obtain ⟨j378, j379, j380, j381, j382, j383, j384⟩ := hj
                        have b0 : v3 19 0 = w 19 0 := j378 _ _ (by unfold kNw; omega)
                        refine e_Ok.run (t' := (121, [(0, (1, 0)), (2, (0, y2c))], [(1, 0), (0, y2c)], v3)) 2 rfl ?_
                        refine e_Ok.getr (z := 19) rfl (el_o rfl) rfl rfl ((j378 0 4 no_cu_2).trans (Eq.trans (e_Has.eq hT rfl) (by omega))) (by omega) ?_
                        have h385 := (e_Has.get hT (c := 19) (k := 0) (lo := 0) (hi := 4) rfl (by decide))
                        refine e_Ok.getf (z := w 19 0) rfl (el_o rfl) rfl rfl ((j378 19 0 no_cu_3).trans rfl) (by omega) ?_
                        refine e_Ok.if2 rfl (fun h386 => ?_) (fun h386 => ?_)
                        · replace h386 : (y2c : Int) ≥ w 19 0 := h386
                          refine e_Ok.run (t' := (191, [(2, (0, 0)), (0, (1, 0))], [], v3)) 2 rfl ?_
                          have hL387 : ∀ (nn : Nat) (y2d : Int) (v4 : eW), e_fr kNw w v4 ∧ e_Has kTy v4 ∧ v4 74 0 = w 74 0 + 1 ∧ kI v4 OP OD CL h1 (-1) ∧ ((w 74 1 ≤ v4 74 1 ∧ v4 74 1 ≤ w 74 1 + 398)) ∧ (0 ≤ y2d ∧ y2d ≤ 4) ∧ aQ w v4 → 4 - y2d < nn → e_Ok 20 elay kcode eI (d + 1) 259 (191, [(0, (1, 0)), (2, (0, y2d))], [], v4) (fun r w' => r = [] ∧ e_Has kTy w' ∧ (e_fr kNw w w' ∧ w' 74 0 = w 74 0 + 1) ∧ ∃ h', h ≤ h' ∧ kI w' OP OD CL h' (-1) ∧ w 74 1 ≤ w' 74 1 ∧ w' 74 1 ≤ w 74 1 + 900 ∧ aQ w w') := by
                            intro nn
                            induction nn with
                            | zero => intro y2d v4 hj hm; obtain ⟨j389, j390, j391, j392, j393, j394, j395⟩ := hj; exfalso; omega
                            | succ nn ih388 =>
                              intro y2d v4 hj hm
                              obtain ⟨j389, j390, j391, j392, j393, j394, j395⟩ := hj
                              refine e_Ok.run (t' := (193, [(0, (1, 0)), (2, (0, y2d))], [(1, 0), (0, y2d)], v4)) 2 rfl ?_
                              refine e_Ok.getf (z := w 0 11) rfl (el_o rfl) rfl rfl ((j389 0 11 no_cu_2).trans rfl) (by omega) ?_
                              refine e_Ok.if2 rfl (fun h396 => ?_) (fun h396 => ?_)
                              · replace h396 : (y2d : Int) ≥ w 0 11 := h396
                                have hfk := j392.fk; have hbl := j392.bel
                                refine e_Ok.jp rfl ⟨rfl, j390, fun b g1 g2 => ⟨(hfk.1 b g1 g2).1, fun i g3 g4 => ?_⟩, fun p g1 g2 => ?_⟩ (fun w397 hw397 => ?_)
                                · have g5 := ((hfk.1 b g1 g2).2 i g3 g4).1; have g6 := e_Has.get j390 (c := 19) (k := 1) (lo := 0) (hi := 32) rfl (by decide); unfold kn1; omega
                                · have g5 := (hfk.2 p g1 g2).1; unfold kn1; omega
                                have fHv : e_fr kHv v4 w397 := by rw [← hw397]; exact e_hk_fr _
                                have QH := kI.hk j392 hw397
                                have f398 : e_fr kNw w w397 := e_fr.trans j389 (e_fr.mono fHv (fun c k q => by exact nw_kHv q))
                                have A399 : aQ w w397 := aQ.trans j395 (aQ.q (e_fr.mono fHv (fun c k q => nq_kHv q)) j390 QH.1)
                                refine e_Ok.rets rfl rfl ?_
                                exact ⟨rfl, QH.1, ⟨f398, (fHv _ _ (by unfold kHv; omega)).trans j391⟩, h1, j357, QH, by rw [fHv _ _ (by unfold kHv; omega)]; omega, by rw [fHv _ _ (by unfold kHv; omega)]; omega, A399⟩
                              · replace h396 : (y2d : Int) < w 0 11 := by have q : ¬ ((y2d : Int) ≥ w 0 11) := h396; omega
                                refine e_Ok.run (t' := (200, [(0, (1, 0)), (2, (0, y2d))], [(1, 0)], v4)) 1 rfl ?_
                                refine e_Ok.getr (z := 9) rfl (el_o rfl) rfl rfl ((j389 0 2 no_cu_2).trans (Eq.trans (e_Has.eq hT rfl) (by omega))) (by omega) ?_
                                refine e_Ok.run (t' := (204, [(0, (1, 0)), (2, (0, y2d))], [(0, y2d), (1, 9)], v4)) 1 rfl ?_
                                refine e_Ok.aald (z := 17 * y2d + 86) rfl (el_o rfl) rfl (by omega) ((j389 9 y2d no_cu_4).trans (Eq.trans (e_Has.eq hT (k9 (by omega))) (by omega))) (by omega) ?_
                                refine e_Ok.callV rfl (by omega) rfl (lA0 (a := y2d) (by omega) (by omega)) rfl rfl (c_11 (a := y2d) j390 (by omega) (j392.arm (by omega) (by omega)).1) (fun r400 w401 h402 => ?_)
                                obtain ⟨rfl, q403f, q403T, q403x⟩ := h402
                                have f404 : e_fr kNw w w401 := e_fr.trans j389 (e_fr.mono q403f (fun c k q => by exact nw_kOl (by omega) q))
                                have A405 : aQ w w401 := aQ.trans j395 (aQ.q (e_fr.mono q403f (fun c k q => nq_kOl (by omega) q)) j390 q403T)
                                have Q406 := kI.old j392 q403T (a := y2d) (by omega) q403f q403x
                                show e_Ok 20 elay kcode eI (d + 1) 259 (208, [(0, (1, 0)), (2, (0, y2d))], [], w401) _
                                refine e_Ok.inc (z := y2d + 1) rfl rfl (by omega) (by omega) ?_
                                show e_Ok 20 elay kcode eI (d + 1) 259 (211, [(2, (0, y2d + 1)), (0, (1, 0))], [], w401) _
                                refine e_Ok.run (t' := (191, [(2, (0, y2d + 1)), (0, (1, 0))], [], w401)) 1 rfl ?_
                                refine e_Ok.sub kAlk (e_sub_of rfl ?_) (ih388 (y2d + 1) w401 ⟨f404, q403T, ((q403f _ _ (by unfold kOl; omega)).trans j391), Q406, (by rw [q403f _ _ (by unfold kOl; omega)]; omega), by omega, A405⟩ (by omega))
                                exact ⟨rfl, rfl, trivial⟩
                          refine e_Ok.sub kAlk (e_sub_of rfl ?_) (hL387 (4 + 1 : Int).toNat 0 v3 ⟨j378, j379, j380, j381, by omega, by omega, j384⟩ (by omega))
                          exact ⟨rfl, rfl, trivial⟩
                        · replace h386 : (y2c : Int) < w 19 0 := by have q : ¬ ((y2c : Int) ≥ w 19 0) := h386; omega
                          refine e_Ok.run (t' := (131, [(0, (1, 0)), (2, (0, y2c))], [(1, 0)], v3)) 1 rfl ?_
                          refine e_Ok.getr (z := 19) rfl (el_o rfl) rfl rfl ((j378 0 4 no_cu_2).trans (Eq.trans (e_Has.eq hT rfl) (by omega))) (by omega) ?_
                          refine e_Ok.run (t' := (135, [(0, (1, 0)), (2, (0, y2c))], [(0, y2c), (1, 19)], v3)) 1 rfl ?_
                          refine e_Ok.callV rfl (by omega) rfl rfl rfl rfl (c_86 j379 (by omega) j381.fk (by omega)) (fun r407 w408 h409 => ?_)
                          obtain ⟨rfl, q410f, q410T, q410x⟩ := h409
                          have f411 : e_fr kNw w w408 := e_fr.trans j378 (e_fr.mono q410f (fun c k q => by exact nw_kWy q))
                          have A412 : aQ w w408 := aQ.trans j384 (aQ.q (e_fr.mono q410f (fun c k q => nq_kWy q)) j379 q410T)
                          have Q413 := kI.wy j381 q410T q410f q410x
                          have tG : w408 74 0 = w 74 0 + 1 := (q410f _ _ (by unfold kWy; omega)).trans j380
                          have vG : w408 74 1 = v3 74 1 := q410f _ _ (by unfold kWy; omega)
                          have bG : w408 19 0 = v3 19 0 := q410f _ _ (by unfold kWy; omega)
                          show e_Ok 20 elay kcode eI (d + 1) 259 (138, [(0, (1, 0)), (2, (0, y2c))], [], w408) _
                          refine e_Ok.run (t' := (139, [(0, (1, 0)), (2, (0, y2c))], [(1, 0)], w408)) 1 rfl ?_
                          refine e_Ok.getr (z := 19) rfl (el_o rfl) rfl rfl ((q410f 0 4 no_cu_5).trans ((j378 0 4 no_cu_2).trans (Eq.trans (e_Has.eq hT rfl) (by omega)))) (by omega) ?_
                          refine e_Ok.getr (z := 22) rfl (el_o rfl) rfl rfl ((q410f 19 4 no_cu_6).trans ((j378 19 4 no_cu_3).trans (Eq.trans (e_Has.eq hT rfl) (by omega)))) (by omega) ?_
                          refine e_Ok.run (t' := (146, [(0, (1, 0)), (2, (0, y2c))], [(0, y2c), (1, 22)], w408)) 1 rfl ?_
                          have h414 := (e_Has.get hT (c := 22) (k := y2c) (lo := (-1)) (hi := 63) rfl (by decide))
                          refine e_Ok.ald (z := w 22 y2c) rfl (el_o rfl) rfl (by omega) ((q410f 22 y2c no_cu_7).trans ((j378 22 y2c no_cu_8).trans rfl)) (by omega) ?_
                          refine e_Ok.if1 rfl (fun h415 => ?_) (fun h415 => ?_)
                          · replace h415 : (w 22 y2c : Int) < 0 := h415
                            refine e_Ok.inc (z := y2c + 1) rfl rfl (by omega) (by omega) ?_
                            show e_Ok 20 elay kcode eI (d + 1) 259 (186, [(2, (0, y2c + 1)), (0, (1, 0))], [], w408) _
                            refine e_Ok.run (t' := (119, [(2, (0, y2c + 1)), (0, (1, 0))], [], w408)) 1 rfl ?_
                            refine e_Ok.sub kAlk (e_sub_of rfl ?_) (ih377 (y2c + 1) w408 ⟨f411, q410T, tG, Q413, (by omega), by omega, A412⟩ (by omega))
                            exact ⟨rfl, rfl, trivial⟩
                          · replace h415 : (w 22 y2c : Int) ≥ 0 := by have q : ¬ ((w 22 y2c : Int) < 0) := h415; omega
                            refine e_Ok.run (t' := (151, [(0, (1, 0)), (2, (0, y2c))], [(1, 0)], w408)) 1 rfl ?_
                            refine e_Ok.getr (z := 10) rfl (el_o rfl) rfl rfl ((q410f 0 3 no_cu_5).trans ((j378 0 3 no_cu_2).trans (Eq.trans (e_Has.eq hT rfl) (by omega)))) (by omega) ?_
                            refine e_Ok.run (t' := (155, [(0, (1, 0)), (2, (0, y2c))], [(1, 0), (1, 10)], w408)) 1 rfl ?_
                            refine e_Ok.getr (z := 19) rfl (el_o rfl) rfl rfl ((q410f 0 4 no_cu_5).trans ((j378 0 4 no_cu_2).trans (Eq.trans (e_Has.eq hT rfl) (by omega)))) (by omega) ?_
                            refine e_Ok.getr (z := 22) rfl (el_o rfl) rfl rfl ((q410f 19 4 no_cu_6).trans ((j378 19 4 no_cu_3).trans (Eq.trans (e_Has.eq hT rfl) (by omega)))) (by omega) ?_
                            refine e_Ok.run (t' := (162, [(0, (1, 0)), (2, (0, y2c))], [(0, y2c), (1, 22), (1, 10)], w408)) 1 rfl ?_
                            refine e_Ok.ald (z := w 22 y2c) rfl (el_o rfl) rfl (by omega) ((q410f 22 y2c no_cu_7).trans ((j378 22 y2c no_cu_8).trans rfl)) (by omega) ?_
                            refine e_Ok.run (t' := (164, [(0, (1, 0)), (2, (0, y2c))], [(1, 0), (0, w 22 y2c), (1, 10)], w408)) 1 rfl ?_
                            refine e_Ok.getr (z := 19) rfl (el_o rfl) rfl rfl ((q410f 0 4 no_cu_5).trans ((j378 0 4 no_cu_2).trans (Eq.trans (e_Has.eq hT rfl) (by omega)))) (by omega) ?_
                            refine e_Ok.run (t' := (168, [(0, (1, 0)), (2, (0, y2c))], [(0, y2c), (1, 19), (0, w 22 y2c), (1, 10)], w408)) 1 rfl ?_
                            refine e_Ok.callV rfl (by omega) rfl rfl rfl rfl (c_87 (by omega) q410T (by omega) Q413.fk (by omega)) (fun r417 w418 h419 => ?_)
                            obtain ⟨z421, rfl, rfl, q420r⟩ := h419
                            show e_Ok 20 elay kcode eI (d + 1) 259 (171, [(0, (1, 0)), (2, (0, y2c))], [(0, z421), (0, w 22 y2c), (1, 10)], w408) _
                            have hJ424 : ∀ m423 : Int, 0 ≤ m423 ∧ m423 ≤ 1 → e_Ok 20 elay kcode eI (d + 1) 259 (179, [(0, (1, 0)), (2, (0, y2c))], [(0, m423), (0, w 22 y2c), (1, 10)], w408) (fun r w' => r = [] ∧ e_Has kTy w' ∧ (e_fr kNw w w' ∧ w' 74 0 = w 74 0 + 1) ∧ ∃ h', h ≤ h' ∧ kI w' OP OD CL h' (-1) ∧ w 74 1 ≤ w' 74 1 ∧ w' 74 1 ≤ w 74 1 + 900 ∧ aQ w w') := by
                              intro m423 m423r
                              refine e_Ok.callV rfl (by omega) rfl rfl rfl rfl (c_113 (by omega) q410T (by omega) (by omega) Q413.pf) (fun r425 w426 h427 => ?_)
                              obtain ⟨z429, rfl, q428f, q428T, q428r, q428x⟩ := h427
                              have f430 : e_fr kNw w w426 := e_fr.trans f411 (e_fr.mono q428f (fun c k q => by exact nw_kPo q))
                              have A431 : aQ w w426 := aQ.trans A412 (aQ.q (e_fr.mono q428f (fun c k q => nq_kPo q)) q410T q428T)
                              have Q432 := kI.po Q413 q428T (e_fr.mono q428f (fun c k g => ph_kPo g)) q428x
                              show e_Ok 20 elay kcode eI (d + 1) 259 (182, [(0, (1, 0)), (2, (0, y2c))], [(0, z429)], w426) _
                              refine e_Ok.run (t' := (183, [(0, (1, 0)), (2, (0, y2c))], [], w426)) 1 rfl ?_
                              refine e_Ok.inc (z := y2c + 1) rfl rfl (by omega) (by omega) ?_
                              show e_Ok 20 elay kcode eI (d + 1) 259 (186, [(2, (0, y2c + 1)), (0, (1, 0))], [], w426) _
                              refine e_Ok.run (t' := (119, [(2, (0, y2c + 1)), (0, (1, 0))], [], w426)) 1 rfl ?_
                              refine e_Ok.sub kAlk (e_sub_of rfl ?_) (ih377 (y2c + 1) w426 ⟨f430, q428T, ((q428f _ _ (by unfold kPo; omega)).trans tG), Q432, (by rw [q428f _ _ (by unfold kPo; omega)]; omega), by omega, A431⟩ (by omega))
                              exact ⟨rfl, rfl, trivial⟩
                            refine e_Ok.if1 rfl (fun h422 => ?_) (fun h422 => ?_)
                            · exact e_Ok.run 1 rfl (hJ424 0 (by omega))
                            · exact e_Ok.run 2 rfl (hJ424 1 (by omega))
                    refine e_Ok.sub kAlk (e_sub_of rfl ?_) (hL376 (4 + 1 : Int).toNat 0 v2 ⟨j365, j366, j367, j368, (by omega), by omega, j371⟩ (by omega))
                    exact ⟨rfl, rfl, trivial⟩
                  · replace h375 : (v2 74 3 : Int) ≠ 0 := by have q : ¬ ((v2 74 3 : Int) = 0) := h375; omega
                    refine e_Ok.run (t' := (114, [(0, (1, 0)), (2, (0, y2b))], [(1, 0)], v2)) 1 rfl ?_
                    refine e_Ok.callV rfl (by omega) rfl rfl rfl rfl (c_262 (by omega) j366 j368 (by omega)) (fun r433 w434 h435 => ?_)
                    obtain ⟨rfl, q436T, q436f, q436x⟩ := h435
                    have f437 : e_fr kNw w w434 := e_fr.trans j365 (e_fr.mono q436f.1 (fun c k q => by exact nq_nw q))
                    have A438 : aQ w w434 := aQ.trans j371 (aQ.q q436f.1 j366 q436T)
                    show e_Ok 20 elay kcode eI (d + 1) 259 (117, [(0, (1, 0)), (2, (0, y2b))], [], w434) _
                    refine e_Ok.run (t' := (119, [(2, (0, 0)), (0, (1, 0))], [], w434)) 2 rfl ?_
                    have hL439 : ∀ (nn : Nat) (y2c : Int) (v3 : eW), e_fr kNw w v3 ∧ e_Has kTy v3 ∧ v3 74 0 = w 74 0 + 1 ∧ kI v3 OP OD CL h1 (-1) ∧ ((w 74 1 ≤ v3 74 1 ∧ v3 74 1 ≤ w 74 1 + 398)) ∧ (0 ≤ y2c ∧ y2c ≤ 4) ∧ aQ w v3 → 4 - y2c < nn → e_Ok 20 elay kcode eI (d + 1) 259 (119, [(0, (1, 0)), (2, (0, y2c))], [], v3) (fun r w' => r = [] ∧ e_Has kTy w' ∧ (e_fr kNw w w' ∧ w' 74 0 = w 74 0 + 1) ∧ ∃ h', h ≤ h' ∧ kI w' OP OD CL h' (-1) ∧ w 74 1 ≤ w' 74 1 ∧ w' 74 1 ≤ w 74 1 + 900 ∧ aQ w w') := by
                      intro nn
                      induction nn with
                      | zero => intro y2c v3 hj hm; obtain ⟨j441, j442, j443, j444, j445, j446, j447⟩ := hj; exfalso; omega
                      | succ nn ih440 =>
                        intro y2c v3 hj hm
                        obtain ⟨j441, j442, j443, j444, j445, j446, j447⟩ := hj
                        have b0 : v3 19 0 = w 19 0 := j441 _ _ (by unfold kNw; omega)
                        refine e_Ok.run (t' := (121, [(0, (1, 0)), (2, (0, y2c))], [(1, 0), (0, y2c)], v3)) 2 rfl ?_
                        refine e_Ok.getr (z := 19) rfl (el_o rfl) rfl rfl ((j441 0 4 no_cu_2).trans (Eq.trans (e_Has.eq hT rfl) (by omega))) (by omega) ?_
                        have h448 := (e_Has.get hT (c := 19) (k := 0) (lo := 0) (hi := 4) rfl (by decide))
                        refine e_Ok.getf (z := w 19 0) rfl (el_o rfl) rfl rfl ((j441 19 0 no_cu_3).trans rfl) (by omega) ?_
                        refine e_Ok.if2 rfl (fun h449 => ?_) (fun h449 => ?_)
                        · replace h449 : (y2c : Int) ≥ w 19 0 := h449
                          refine e_Ok.run (t' := (191, [(2, (0, 0)), (0, (1, 0))], [], v3)) 2 rfl ?_
                          have hL450 : ∀ (nn : Nat) (y2d : Int) (v4 : eW), e_fr kNw w v4 ∧ e_Has kTy v4 ∧ v4 74 0 = w 74 0 + 1 ∧ kI v4 OP OD CL h1 (-1) ∧ ((w 74 1 ≤ v4 74 1 ∧ v4 74 1 ≤ w 74 1 + 398)) ∧ (0 ≤ y2d ∧ y2d ≤ 4) ∧ aQ w v4 → 4 - y2d < nn → e_Ok 20 elay kcode eI (d + 1) 259 (191, [(0, (1, 0)), (2, (0, y2d))], [], v4) (fun r w' => r = [] ∧ e_Has kTy w' ∧ (e_fr kNw w w' ∧ w' 74 0 = w 74 0 + 1) ∧ ∃ h', h ≤ h' ∧ kI w' OP OD CL h' (-1) ∧ w 74 1 ≤ w' 74 1 ∧ w' 74 1 ≤ w 74 1 + 900 ∧ aQ w w') := by
                            intro nn
                            induction nn with
                            | zero => intro y2d v4 hj hm; obtain ⟨j452, j453, j454, j455, j456, j457, j458⟩ := hj; exfalso; omega
                            | succ nn ih451 =>
                              intro y2d v4 hj hm
                              obtain ⟨j452, j453, j454, j455, j456, j457, j458⟩ := hj
                              refine e_Ok.run (t' := (193, [(0, (1, 0)), (2, (0, y2d))], [(1, 0), (0, y2d)], v4)) 2 rfl ?_
                              refine e_Ok.getf (z := w 0 11) rfl (el_o rfl) rfl rfl ((j452 0 11 no_cu_2).trans rfl) (by omega) ?_
                              refine e_Ok.if2 rfl (fun h459 => ?_) (fun h459 => ?_)
                              · replace h459 : (y2d : Int) ≥ w 0 11 := h459
                                have hfk := j455.fk; have hbl := j455.bel
                                refine e_Ok.jp rfl ⟨rfl, j453, fun b g1 g2 => ⟨(hfk.1 b g1 g2).1, fun i g3 g4 => ?_⟩, fun p g1 g2 => ?_⟩ (fun w460 hw460 => ?_)
                                · have g5 := ((hfk.1 b g1 g2).2 i g3 g4).1; have g6 := e_Has.get j453 (c := 19) (k := 1) (lo := 0) (hi := 32) rfl (by decide); unfold kn1; omega
                                · have g5 := (hfk.2 p g1 g2).1; unfold kn1; omega
                                have fHv : e_fr kHv v4 w460 := by rw [← hw460]; exact e_hk_fr _
                                have QH := kI.hk j455 hw460
                                have f461 : e_fr kNw w w460 := e_fr.trans j452 (e_fr.mono fHv (fun c k q => by exact nw_kHv q))
                                have A462 : aQ w w460 := aQ.trans j458 (aQ.q (e_fr.mono fHv (fun c k q => nq_kHv q)) j453 QH.1)
                                refine e_Ok.rets rfl rfl ?_
                                exact ⟨rfl, QH.1, ⟨f461, (fHv _ _ (by unfold kHv; omega)).trans j454⟩, h1, j357, QH, by rw [fHv _ _ (by unfold kHv; omega)]; omega, by rw [fHv _ _ (by unfold kHv; omega)]; omega, A462⟩
                              · replace h459 : (y2d : Int) < w 0 11 := by have q : ¬ ((y2d : Int) ≥ w 0 11) := h459; omega
                                refine e_Ok.run (t' := (200, [(0, (1, 0)), (2, (0, y2d))], [(1, 0)], v4)) 1 rfl ?_
                                refine e_Ok.getr (z := 9) rfl (el_o rfl) rfl rfl ((j452 0 2 no_cu_2).trans (Eq.trans (e_Has.eq hT rfl) (by omega))) (by omega) ?_
                                refine e_Ok.run (t' := (204, [(0, (1, 0)), (2, (0, y2d))], [(0, y2d), (1, 9)], v4)) 1 rfl ?_
                                refine e_Ok.aald (z := 17 * y2d + 86) rfl (el_o rfl) rfl (by omega) ((j452 9 y2d no_cu_4).trans (Eq.trans (e_Has.eq hT (k9 (by omega))) (by omega))) (by omega) ?_
                                refine e_Ok.callV rfl (by omega) rfl (lA0 (a := y2d) (by omega) (by omega)) rfl rfl (c_11 (a := y2d) j453 (by omega) (j455.arm (by omega) (by omega)).1) (fun r463 w464 h465 => ?_)
                                obtain ⟨rfl, q466f, q466T, q466x⟩ := h465
                                have f467 : e_fr kNw w w464 := e_fr.trans j452 (e_fr.mono q466f (fun c k q => by exact nw_kOl (by omega) q))
                                have A468 : aQ w w464 := aQ.trans j458 (aQ.q (e_fr.mono q466f (fun c k q => nq_kOl (by omega) q)) j453 q466T)
                                have Q469 := kI.old j455 q466T (a := y2d) (by omega) q466f q466x
                                show e_Ok 20 elay kcode eI (d + 1) 259 (208, [(0, (1, 0)), (2, (0, y2d))], [], w464) _
                                refine e_Ok.inc (z := y2d + 1) rfl rfl (by omega) (by omega) ?_
                                show e_Ok 20 elay kcode eI (d + 1) 259 (211, [(2, (0, y2d + 1)), (0, (1, 0))], [], w464) _
                                refine e_Ok.run (t' := (191, [(2, (0, y2d + 1)), (0, (1, 0))], [], w464)) 1 rfl ?_
                                refine e_Ok.sub kAlk (e_sub_of rfl ?_) (ih451 (y2d + 1) w464 ⟨f467, q466T, ((q466f _ _ (by unfold kOl; omega)).trans j454), Q469, (by rw [q466f _ _ (by unfold kOl; omega)]; omega), by omega, A468⟩ (by omega))
                                exact ⟨rfl, rfl, trivial⟩
                          refine e_Ok.sub kAlk (e_sub_of rfl ?_) (hL450 (4 + 1 : Int).toNat 0 v3 ⟨j441, j442, j443, j444, by omega, by omega, j447⟩ (by omega))
                          exact ⟨rfl, rfl, trivial⟩
                        · replace h449 : (y2c : Int) < w 19 0 := by have q : ¬ ((y2c : Int) ≥ w 19 0) := h449; omega
                          refine e_Ok.run (t' := (131, [(0, (1, 0)), (2, (0, y2c))], [(1, 0)], v3)) 1 rfl ?_
                          refine e_Ok.getr (z := 19) rfl (el_o rfl) rfl rfl ((j441 0 4 no_cu_2).trans (Eq.trans (e_Has.eq hT rfl) (by omega))) (by omega) ?_
                          refine e_Ok.run (t' := (135, [(0, (1, 0)), (2, (0, y2c))], [(0, y2c), (1, 19)], v3)) 1 rfl ?_
                          refine e_Ok.callV rfl (by omega) rfl rfl rfl rfl (c_86 j442 (by omega) j444.fk (by omega)) (fun r470 w471 h472 => ?_)
                          obtain ⟨rfl, q473f, q473T, q473x⟩ := h472
                          have f474 : e_fr kNw w w471 := e_fr.trans j441 (e_fr.mono q473f (fun c k q => by exact nw_kWy q))
                          have A475 : aQ w w471 := aQ.trans j447 (aQ.q (e_fr.mono q473f (fun c k q => nq_kWy q)) j442 q473T)
                          have Q476 := kI.wy j444 q473T q473f q473x
                          have tG : w471 74 0 = w 74 0 + 1 := (q473f _ _ (by unfold kWy; omega)).trans j443
                          have vG : w471 74 1 = v3 74 1 := q473f _ _ (by unfold kWy; omega)
                          have bG : w471 19 0 = v3 19 0 := q473f _ _ (by unfold kWy; omega)
                          show e_Ok 20 elay kcode eI (d + 1) 259 (138, [(0, (1, 0)), (2, (0, y2c))], [], w471) _
                          refine e_Ok.run (t' := (139, [(0, (1, 0)), (2, (0, y2c))], [(1, 0)], w471)) 1 rfl ?_
                          refine e_Ok.getr (z := 19) rfl (el_o rfl) rfl rfl ((q473f 0 4 no_cu_5).trans ((j441 0 4 no_cu_2).trans (Eq.trans (e_Has.eq hT rfl) (by omega)))) (by omega) ?_
                          refine e_Ok.getr (z := 22) rfl (el_o rfl) rfl rfl ((q473f 19 4 no_cu_6).trans ((j441 19 4 no_cu_3).trans (Eq.trans (e_Has.eq hT rfl) (by omega)))) (by omega) ?_
                          refine e_Ok.run (t' := (146, [(0, (1, 0)), (2, (0, y2c))], [(0, y2c), (1, 22)], w471)) 1 rfl ?_
                          have h477 := (e_Has.get hT (c := 22) (k := y2c) (lo := (-1)) (hi := 63) rfl (by decide))
                          refine e_Ok.ald (z := w 22 y2c) rfl (el_o rfl) rfl (by omega) ((q473f 22 y2c no_cu_7).trans ((j441 22 y2c no_cu_8).trans rfl)) (by omega) ?_
                          refine e_Ok.if1 rfl (fun h478 => ?_) (fun h478 => ?_)
                          · replace h478 : (w 22 y2c : Int) < 0 := h478
                            refine e_Ok.inc (z := y2c + 1) rfl rfl (by omega) (by omega) ?_
                            show e_Ok 20 elay kcode eI (d + 1) 259 (186, [(2, (0, y2c + 1)), (0, (1, 0))], [], w471) _
                            refine e_Ok.run (t' := (119, [(2, (0, y2c + 1)), (0, (1, 0))], [], w471)) 1 rfl ?_
                            refine e_Ok.sub kAlk (e_sub_of rfl ?_) (ih440 (y2c + 1) w471 ⟨f474, q473T, tG, Q476, (by omega), by omega, A475⟩ (by omega))
                            exact ⟨rfl, rfl, trivial⟩
                          · replace h478 : (w 22 y2c : Int) ≥ 0 := by have q : ¬ ((w 22 y2c : Int) < 0) := h478; omega
                            refine e_Ok.run (t' := (151, [(0, (1, 0)), (2, (0, y2c))], [(1, 0)], w471)) 1 rfl ?_
                            refine e_Ok.getr (z := 10) rfl (el_o rfl) rfl rfl ((q473f 0 3 no_cu_5).trans ((j441 0 3 no_cu_2).trans (Eq.trans (e_Has.eq hT rfl) (by omega)))) (by omega) ?_
                            refine e_Ok.run (t' := (155, [(0, (1, 0)), (2, (0, y2c))], [(1, 0), (1, 10)], w471)) 1 rfl ?_
                            refine e_Ok.getr (z := 19) rfl (el_o rfl) rfl rfl ((q473f 0 4 no_cu_5).trans ((j441 0 4 no_cu_2).trans (Eq.trans (e_Has.eq hT rfl) (by omega)))) (by omega) ?_
                            refine e_Ok.getr (z := 22) rfl (el_o rfl) rfl rfl ((q473f 19 4 no_cu_6).trans ((j441 19 4 no_cu_3).trans (Eq.trans (e_Has.eq hT rfl) (by omega)))) (by omega) ?_
                            refine e_Ok.run (t' := (162, [(0, (1, 0)), (2, (0, y2c))], [(0, y2c), (1, 22), (1, 10)], w471)) 1 rfl ?_
                            refine e_Ok.ald (z := w 22 y2c) rfl (el_o rfl) rfl (by omega) ((q473f 22 y2c no_cu_7).trans ((j441 22 y2c no_cu_8).trans rfl)) (by omega) ?_
                            refine e_Ok.run (t' := (164, [(0, (1, 0)), (2, (0, y2c))], [(1, 0), (0, w 22 y2c), (1, 10)], w471)) 1 rfl ?_
                            refine e_Ok.getr (z := 19) rfl (el_o rfl) rfl rfl ((q473f 0 4 no_cu_5).trans ((j441 0 4 no_cu_2).trans (Eq.trans (e_Has.eq hT rfl) (by omega)))) (by omega) ?_
                            refine e_Ok.run (t' := (168, [(0, (1, 0)), (2, (0, y2c))], [(0, y2c), (1, 19), (0, w 22 y2c), (1, 10)], w471)) 1 rfl ?_
                            refine e_Ok.callV rfl (by omega) rfl rfl rfl rfl (c_87 (by omega) q473T (by omega) Q476.fk (by omega)) (fun r479 w480 h481 => ?_)
                            obtain ⟨z483, rfl, rfl, q482r⟩ := h481
                            show e_Ok 20 elay kcode eI (d + 1) 259 (171, [(0, (1, 0)), (2, (0, y2c))], [(0, z483), (0, w 22 y2c), (1, 10)], w471) _
                            have hJ486 : ∀ m485 : Int, 0 ≤ m485 ∧ m485 ≤ 1 → e_Ok 20 elay kcode eI (d + 1) 259 (179, [(0, (1, 0)), (2, (0, y2c))], [(0, m485), (0, w 22 y2c), (1, 10)], w471) (fun r w' => r = [] ∧ e_Has kTy w' ∧ (e_fr kNw w w' ∧ w' 74 0 = w 74 0 + 1) ∧ ∃ h', h ≤ h' ∧ kI w' OP OD CL h' (-1) ∧ w 74 1 ≤ w' 74 1 ∧ w' 74 1 ≤ w 74 1 + 900 ∧ aQ w w') := by
                              intro m485 m485r
                              refine e_Ok.callV rfl (by omega) rfl rfl rfl rfl (c_113 (by omega) q473T (by omega) (by omega) Q476.pf) (fun r487 w488 h489 => ?_)
                              obtain ⟨z491, rfl, q490f, q490T, q490r, q490x⟩ := h489
                              have f492 : e_fr kNw w w488 := e_fr.trans f474 (e_fr.mono q490f (fun c k q => by exact nw_kPo q))
                              have A493 : aQ w w488 := aQ.trans A475 (aQ.q (e_fr.mono q490f (fun c k q => nq_kPo q)) q473T q490T)
                              have Q494 := kI.po Q476 q490T (e_fr.mono q490f (fun c k g => ph_kPo g)) q490x
                              show e_Ok 20 elay kcode eI (d + 1) 259 (182, [(0, (1, 0)), (2, (0, y2c))], [(0, z491)], w488) _
                              refine e_Ok.run (t' := (183, [(0, (1, 0)), (2, (0, y2c))], [], w488)) 1 rfl ?_
                              refine e_Ok.inc (z := y2c + 1) rfl rfl (by omega) (by omega) ?_
                              show e_Ok 20 elay kcode eI (d + 1) 259 (186, [(2, (0, y2c + 1)), (0, (1, 0))], [], w488) _
                              refine e_Ok.run (t' := (119, [(2, (0, y2c + 1)), (0, (1, 0))], [], w488)) 1 rfl ?_
                              refine e_Ok.sub kAlk (e_sub_of rfl ?_) (ih440 (y2c + 1) w488 ⟨f492, q490T, ((q490f _ _ (by unfold kPo; omega)).trans tG), Q494, (by rw [q490f _ _ (by unfold kPo; omega)]; omega), by omega, A493⟩ (by omega))
                              exact ⟨rfl, rfl, trivial⟩
                            refine e_Ok.if1 rfl (fun h484 => ?_) (fun h484 => ?_)
                            · exact e_Ok.run 1 rfl (hJ486 0 (by omega))
                            · exact e_Ok.run 2 rfl (hJ486 1 (by omega))
                    refine e_Ok.sub kAlk (e_sub_of rfl ?_) (hL439 (4 + 1 : Int).toNat 0 w434 ⟨f437, q436T, (q436f.2.trans j367), q436x.1, (by have g := q436x.2; omega), by omega, A438⟩ (by omega))
                    exact ⟨rfl, rfl, trivial⟩
                · replace h373 : (y2b : Int) < w 0 11 := by have q : ¬ ((y2b : Int) ≥ w 0 11) := h373; omega
                  refine e_Ok.run (t' := (94, [(0, (1, 0)), (2, (0, y2b))], [(0, y2b), (1, 0)], v2)) 2 rfl ?_
                  refine e_Ok.callV rfl (by omega) rfl rfl rfl rfl (c_260 (by omega) (a := y2b) j366 (by omega) j368 (by omega)) (fun r495 w496 h497 => ?_)
                  obtain ⟨rfl, q498T, q498f, q498x⟩ := h497
                  have f499 : e_fr kNw w w496 := e_fr.trans j365 (e_fr.mono q498f.1 (fun c k q => by exact q))
                  have A500 : aQ w w496 := aQ.trans j371 (q498x.2.2.2)
                  show e_Ok 20 elay kcode eI (d + 1) 259 (97, [(0, (1, 0)), (2, (0, y2b))], [], w496) _
                  refine e_Ok.inc (z := y2b + 1) rfl rfl (by omega) (by omega) ?_
                  show e_Ok 20 elay kcode eI (d + 1) 259 (100, [(2, (0, y2b + 1)), (0, (1, 0))], [], w496) _
                  refine e_Ok.run (t' := (84, [(2, (0, y2b + 1)), (0, (1, 0))], [], w496)) 1 rfl ?_
                  refine e_Ok.sub kAlk (e_sub_of rfl ?_) (ih364 (y2b + 1) w496 ⟨f499, q498T, (q498f.2.trans j367), q498x.1, (by have g := q498x.2; omega), by omega, A500⟩ (by omega))
                  exact ⟨rfl, rfl, trivial⟩
            refine e_Ok.sub kAlk (e_sub_of rfl ?_) (hL363 (4 + 1 : Int).toNat 0 v1 ⟨j354, j355, j356, j358, by omega, by omega, j361⟩ (by omega))
            exact ⟨rfl, rfl, trivial⟩
          · replace h362 : (y2 : Int) < 16 := by have q : ¬ ((y2 : Int) ≥ 16) := h362; omega
            refine e_Ok.run (t' := (50, [(0, (1, 0)), (2, (0, y2))], [(1, 0)], v1)) 1 rfl ?_
            refine e_Ok.getr (z := 8) rfl (el_o rfl) rfl rfl ((j354 0 1 no_cu_2).trans (Eq.trans (e_Has.eq hT rfl) (by omega))) (by omega) ?_
            refine e_Ok.run (t' := (54, [(0, (1, 0)), (2, (0, y2))], [(0, y2), (1, 8)], v1)) 1 rfl ?_
            refine e_Ok.callV rfl (by omega) rfl rfl rfl rfl (c_42 (by omega) j355 (by omega) j358) (fun r501 w502 h503 => ?_)
            obtain ⟨z504, rfl, rfl, q505r, q505x⟩ := h503
            show e_Ok 20 elay kcode eI (d + 1) 259 (57, [(0, (1, 0)), (2, (0, y2))], [(0, z504)], v1) _
            refine e_Ok.if1 rfl (fun h506 => ?_) (fun h506 => ?_)
            · replace h506 : (z504 : Int) = 0 := h506
              refine e_Ok.inc (z := y2 + 1) rfl rfl (by omega) (by omega) ?_
              show e_Ok 20 elay kcode eI (d + 1) 259 (79, [(2, (0, y2 + 1)), (0, (1, 0))], [], v1) _
              refine e_Ok.run (t' := (43, [(2, (0, y2 + 1)), (0, (1, 0))], [], v1)) 1 rfl ?_
              refine e_Ok.sub kAlk (e_sub_of rfl ?_) (ih353 (y2 + 1) v1 h1 ⟨j354, j355, j356, j357, j358, (by omega), by omega, j361⟩ (by omega))
              exact ⟨rfl, rfl, trivial⟩
            · replace h506 : (z504 : Int) ≠ 0 := by have q : ¬ ((z504 : Int) = 0) := h506; omega
              refine e_Ok.run (t' := (61, [(0, (1, 0)), (2, (0, y2))], [(1, 0)], v1)) 1 rfl ?_
              refine e_Ok.getr (z := 8) rfl (el_o rfl) rfl rfl ((j354 0 1 no_cu_2).trans (Eq.trans (e_Has.eq hT rfl) (by omega))) (by omega) ?_
              refine e_Ok.run (t' := (65, [(0, (1, 0)), (2, (0, y2))], [(1, 0), (1, 8)], v1)) 1 rfl ?_
              refine e_Ok.getr (z := 8) rfl (el_o rfl) rfl rfl ((j354 0 1 no_cu_2).trans (Eq.trans (e_Has.eq hT rfl) (by omega))) (by omega) ?_
              refine e_Ok.getr (z := 82) rfl (el_o rfl) rfl rfl ((j354 8 4 no_cu_9).trans (Eq.trans (e_Has.eq hT rfl) (by omega))) (by omega) ?_
              refine e_Ok.run (t' := (72, [(0, (1, 0)), (2, (0, y2))], [(0, y2), (1, 82), (1, 8)], v1)) 1 rfl ?_
              refine e_Ok.aald (z := 6 * y2 + 154) rfl (el_o rfl) rfl (by omega) ((j354 82 y2 no_cu_10).trans (Eq.trans (e_Has.eq hT (k82 (by omega))) (by omega))) (by omega) ?_
              have hact := q505x (by omega)
              have tq := j358.ts (t := y2) (by omega) (by omega)
              have ta := tq.1.1 (by omega) (by omega)
              have tb := e_Has.get j355 (c := 6 * y2 + 154) (k := 2) (lo := -1) (hi := 3) (kT_2 (t := y2) rfl (by omega)) (by decide)
              refine e_Ok.callV rfl (by omega) rfl rfl rfl rfl (c_43 (by omega) j355 (by omega) (kI.weak j358 (by decide)) (a := v1 (6 * y2 + 154) 2) (by omega) rfl rfl (by omega) hact ((tq.2 hact.1 hact.2).2 (by omega)) (by omega)) (fun r507 w508 h509 => ?_)
              obtain ⟨rfl, q510T, q510f, q510h, q510x⟩ := h509
              have f511 : e_fr kNw w w508 := e_fr.trans j354 (e_fr.mono q510f.1 (fun c k q => by exact nq_nw q))
              have A512 : aQ w w508 := aQ.trans j361 (aQ.q q510f.1 j355 q510T)
              show e_Ok 20 elay kcode eI (d + 1) 259 (76, [(0, (1, 0)), (2, (0, y2))], [], w508) _
              refine e_Ok.inc (z := y2 + 1) rfl rfl (by omega) (by omega) ?_
              show e_Ok 20 elay kcode eI (d + 1) 259 (79, [(2, (0, y2 + 1)), (0, (1, 0))], [], w508) _
              refine e_Ok.run (t' := (43, [(2, (0, y2 + 1)), (0, (1, 0))], [], w508)) 1 rfl ?_
              refine e_Ok.sub kAlk (e_sub_of rfl ?_) (ih353 (y2 + 1) w508 q510h ⟨f511, q510T, (q510f.2.trans j356), (Int.le_trans j357 q510x.1), q510x.2.1, (by have g := q510x.2.2; omega), by omega, A512⟩ (by omega))
              exact ⟨rfl, rfl, trivial⟩
      refine e_Ok.sub kAlk (e_sub_of rfl ?_) (hL352 (16 + 1 : Int).toNat 0 w347 h ⟨f350, q349T, (q349f.2.trans tB), Int.le_refl h, q349x.1, (by have g := q349x.2.2; omega), by omega, A351⟩ (by omega))
      exact ⟨rfl, rfl, trivial⟩
end
