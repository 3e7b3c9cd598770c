noncomputable section
/-! the class: a tick -/
section Kt
variable {w w' : eW} {OP OD CL : Int → Int → Int} {h t0 : Int}
/-- parts went on along a belt -/
theorem kI.wy (q : kI w OP OD CL h t0) (hT : e_Has kTy w') (f : e_fr kWy w w') (hk : ∀ p, kn1 (w 37 p) → kn1 (w' 37 p)) : kI w' OP OD CL h t0 := by
  have hB := q.bel
  have e : ∀ c k, c ≠ 37 → w' c k = w c k := fun c k g => f c k g
  refine kI.fl q hT (a := 0) (by omega) (f.mono (fun c k g => by unfold kWy at g; exact Or.inl (by omega))) ⟨fun b g1 g2 => ?_, fun p g1 g2 => ?_⟩ (fun b g1 g2 => ?_)
  · rw [e 19 0 (by decide)] at g2
    have qb := q.fk.1 b g1 g2
    unfold fO at qb ⊢
    rw [e 35 b (by decide)]
    refine ⟨qb.1, fun i g3 g4 => ?_⟩
    rw [e (b + 31) i (by omega), e 19 1 (by decide), e 36 _ (by decide)]
    exact qb.2 i g3 g4
  · rw [e 19 1 (by decide)] at g2
    have qp := q.fk.2 p g1 g2
    unfold fP at qp ⊢
    rw [e 36 p (by decide), e 39 p (by decide), e 40 p (by decide), e 19 0 (by decide)]
    exact ⟨qp.1, fun g => ⟨(qp.2.1 g).1, hk p (qp.2.1 g).2⟩, qp.2.2⟩
  · exact ((q.2.1 b g1 g2).2.2.2.2.1).eq (fun c k g => e c k (by omega))
/-- an arm keeps its points -/
theorem kI.old {a : Int} (q : kI w OP OD CL h t0) (hT : e_Has kTy w') (ha : 0 ≤ a ∧ a ≤ 3) (f : e_fr (kOl a) w w') (hO : oK w' a) : kI w' OP OD CL h t0 := by
  have hn := (kn_joints q.1 ha).2
  have e : ∀ c k, c ≠ 17 * a + 90 → c ≠ 17 * a + 91 → w' c k = w c k := fun c k g1 g2 => f c k (by unfold kOl; omega)
  obtain ⟨p1, p2, p3, p4, p5, p6⟩ := q.2.1 a ha.1 ha.2
  refine kI.ar q hT ha (f.mono (fun c k g => by unfold kOl at g; exact Or.inr (Or.inr (Or.inr (Or.inr (Or.inl (by omega))))))) (q.lgk.fr f (by unfold kOl; omega) (fun k => by unfold kOl; omega)) ⟨p1.eq (fun c k g => e c k (by omega) (by omega)), hO, ?_, p4.eq hn (fun c k g => e c k (by omega) (by omega)), p5.eq (fun c k g => e c k (by omega) (by omega)), p6.eq hn (fun c k g => e c k (by omega) (by omega))⟩ (fun g g9 => by rw [e _ _ (by omega) (by omega)]; exact q.pw g a ha.1 ha.2 g9)
  rw [e (17 * a + 86) 8 (by omega) (by omega), e (17 * a + 86) 11 (by omega) (by omega)]
  exact p3.eq hn (fun c k g1 g2 g3 g4 => e c k (by omega) (by omega))
theorem hm_kCi {c k : Int} (g : kCi c k) : kHm c k := by
  unfold kCi at g
  unfold kHm
  have h1 : 76 ≤ c ∧ c ≤ 81 := by omega
  simp only [h1.1, h1.2, true_and, true_or, or_true]
end Kt
set_option maxHeartbeats 4000000 in
theorem c_259 {d : Nat} (hd : 29 ≤ d) {w : eW} (hT : e_Has kTy w) {OP OD CL : Int → Int → Int} {h : Int} (q : kI w OP OD CL h (-1)) (h0 : 0 ≤ h) (ht : w 74 0 < 6000) (he : w 74 1 ≤ 1900000000) : e_Ok 20 elay kcode eI d 259 (0, [(0, (1, 0))], [], w) (fun r w' => r = [] ∧ e_Has kTy w' ∧ (e_fr kNw w w' ∧ w' 74 0 = w 74 0 + 1) ∧ ∃ h', h ≤ h' ∧ kI w' OP OD CL h' (-1) ∧ w 74 1 ≤ w' 74 1 ∧ w' 74 1 ≤ w 74 1 + 900 ∧ aQ w w') := by
  obtain ⟨d, rfl⟩ : ∃ e, d = e + 1 := ⟨d - 1, by omega⟩
  have h74 := e_Has.get hT (c := 74) (k := 1) (lo := 0) (hi := 2147483647) rfl (by decide)
  have h740 := e_Has.get hT (c := 74) (k := 0) (lo := 0) (hi := 6000) rfl (by decide)
  refine e_Ok.run (t' := (1, [(0, (1, 0))], [(1, 0)], w)) 1 rfl ?_
  refine e_Ok.getr (z := 74) rfl (el_o rfl) rfl rfl (Eq.trans (e_Has.eq hT rfl) (by omega)) (by omega) ?_
  refine e_Ok.run (t' := (5, [(0, (1, 0))], [(1, 74), (1, 74)], w)) 1 rfl ?_
  refine e_Ok.getf (z := w 74 0) rfl (el_o rfl) rfl rfl rfl (by omega) ?_
  refine e_Ok.run (t' := (9, [(0, (1, 0))], [(0, 1), (0, w 74 0), (1, 74)], w)) 1 rfl ?_
  refine e_Ok.add (z := w 74 0 + 1) rfl (by omega) (by omega) ?_
  refine e_Ok.putf rfl (el_o rfl) rfl rfl ?_
  generalize hw1 : e_up w 74 0 (w 74 0 + 1) = w1
  have f2 : e_fr kNw w w1 := e_fr.up (e_fr.refl w) hw1 (by unfold kNw; omega)
  have hT3 : e_Has kTy w1 := e_Has.upr hT hw1 rfl (by omega)
  have A4 : aQ w w1 := aQ.trans (aQ.refl w) (aQ.q (e_fr.up (e_fr.refl _) hw1 (by unfold kNq; omega)) hT hT3)
  have QA := kI.hu q hT3 hw1 (hm_74 (by omega))
  have tA : w1 74 0 = w 74 0 + 1 := (by rw [← hw1]; exact e_up_eq _ _ _ _)
  have vA : w1 74 1 = w 74 1 := (by rw [← hw1]; exact (e_up_ne _ _ (Or.inr (by omega))).trans rfl)
  refine e_Ok.run (t' := (14, [(0, (1, 0))], [(1, 0)], w1)) 1 rfl ?_
  refine e_Ok.getr (z := 74) rfl (el_o rfl) rfl rfl (by rw [← hw1]; exact (e_up_ne _ _ (Or.inl (by omega))).trans (Eq.trans (e_Has.eq hT rfl) (by omega))) (by omega) ?_
  refine e_Ok.callV rfl (by omega) rfl rfl rfl rfl (c_32 (by omega) hT3) (fun r5 w6 h7 => ?_)
  obtain ⟨z8, rfl, q9f, q9T, q9r⟩ := h7
  have f10 : e_fr kNw w w6 := e_fr.trans f2 (e_fr.mono q9f (fun c k q => by exact nw_kCi q))
  have A11 : aQ w w6 := aQ.trans A4 (aQ.q (e_fr.mono q9f (fun c k q => nq_kCi q)) hT3 q9T)
  have Q12 := kI.hm QA q9T (e_fr.mono q9f (fun c k g => hm_kCi g))
  have tB : w6 74 0 = w 74 0 + 1 := (q9f _ _ (by unfold kCi; omega)).trans tA
  have vB : w6 74 1 = w 74 1 := (q9f _ _ (by unfold kCi; omega)).trans vA
  show e_Ok 20 elay kcode eI (d + 1) 259 (20, [(0, (1, 0))], [(0, z8)], w6) _
  refine e_Ok.run (t' := (21, [(1, (0, z8)), (0, (1, 0))], [], w6)) 1 rfl ?_
  have hL13 : ∀ (nn : Nat) (y2 : Int) (v1 : eW) (h1 : Int), e_fr kNw w v1 ∧ e_Has kTy v1 ∧ v1 74 0 = w 74 0 + 1 ∧ h ≤ h1 ∧ kI v1 OP OD CL h1 (-1) ∧ ((w 74 1 ≤ v1 74 1 ∧ v1 74 1 ≤ w 74 1 + 5 + 24 * y2)) ∧ (0 ≤ y2 ∧ y2 ≤ 16) ∧ aQ w v1 → 16 - y2 < nn → e_Ok 20 elay kcode eI (d + 1) 259 (43, [(0, (1, 0)), (2, (0, y2))], [], v1) (fun r w' => r = [] ∧ e_Has kTy w' ∧ (e_fr kNw w w' ∧ w' 74 0 = w 74 0 + 1) ∧ ∃ h', h ≤ h' ∧ kI w' OP OD CL h' (-1) ∧ w 74 1 ≤ w' 74 1 ∧ w' 74 1 ≤ w 74 1 + 900 ∧ aQ w w') := by
    intro nn
    induction nn with
    | zero => intro y2 v1 h1 hj hm; obtain ⟨j15, j16, j17, j18, j19, j20, j21, j22⟩ := hj; exfalso; omega
    | succ nn ih14 =>
      intro y2 v1 h1 hj hm
      obtain ⟨j15, j16, j17, j18, j19, j20, j21, j22⟩ := hj
      refine e_Ok.run (t' := (46, [(0, (1, 0)), (2, (0, y2))], [(0, 16), (0, y2)], v1)) 2 rfl ?_
      refine e_Ok.if2 rfl (fun h23 => ?_) (fun h23 => ?_)
      · replace h23 : (y2 : Int) ≥ 16 := h23
        refine e_Ok.run (t' := (84, [(2, (0, 0)), (0, (1, 0))], [], v1)) 2 rfl ?_
        have hL24 : ∀ (nn : Nat) (y2b : Int) (v2 : eW), e_fr kNw w v2 ∧ e_Has kTy v2 ∧ v2 74 0 = w 74 0 + 1 ∧ kI v2 OP OD CL h1 (-1) ∧ ((w 74 1 ≤ v2 74 1 ∧ v2 74 1 ≤ w 74 1 + 389 + y2b)) ∧ (0 ≤ y2b ∧ y2b ≤ 4) ∧ aQ w v2 → 4 - y2b < nn → e_Ok 20 elay kcode eI (d + 1) 259 (84, [(0, (1, 0)), (2, (0, y2b))], [], v2) (fun r w' => r = [] ∧ e_Has kTy w' ∧ (e_fr kNw w w' ∧ w' 74 0 = w 74 0 + 1) ∧ ∃ h', h ≤ h' ∧ kI w' OP OD CL h' (-1) ∧ w 74 1 ≤ w' 74 1 ∧ w' 74 1 ≤ w 74 1 + 900 ∧ aQ w w') := by
          intro nn
          induction nn with
          | zero => intro y2b v2 hj hm; obtain ⟨j26, j27, j28, j29, j30, j31, j32⟩ := hj; exfalso; omega
          | succ nn ih25 =>
            intro y2b v2 hj hm
            obtain ⟨j26, j27, j28, j29, j30, j31, j32⟩ := hj
            refine e_Ok.run (t' := (86, [(0, (1, 0)), (2, (0, y2b))], [(1, 0), (0, y2b)], v2)) 2 rfl ?_
            have h33 := (e_Has.get hT (c := 0) (k := 11) (lo := 0) (hi := 4) rfl (by decide))
            refine e_Ok.getf (z := w 0 11) rfl (el_o rfl) rfl rfl ((j26 0 11 (by unfold kNw; omega)).trans rfl) (by omega) ?_
            refine e_Ok.if2 rfl (fun h34 => ?_) (fun h34 => ?_)
            · replace h34 : (y2b : Int) ≥ w 0 11 := h34
              have hL35 : ∀ (nn : Nat) (y2c : Int) (v3 : eW), e_fr kNw w v3 ∧ e_Has kTy v3 ∧ v3 74 0 = w 74 0 + 1 ∧ kI v3 OP OD CL h1 (-1) ∧ ((w 74 1 ≤ v3 74 1 ∧ v3 74 1 ≤ w 74 1 + 398)) ∧ (0 ≤ y2c ∧ y2c ≤ 4) ∧ aQ w v3 → 4 - y2c < nn → e_Ok 20 elay kcode eI (d + 1) 259 (119, [(0, (1, 0)), (2, (0, y2c))], [], v3) (fun r w' => r = [] ∧ e_Has kTy w' ∧ (e_fr kNw w w' ∧ w' 74 0 = w 74 0 + 1) ∧ ∃ h', h ≤ h' ∧ kI w' OP OD CL h' (-1) ∧ w 74 1 ≤ w' 74 1 ∧ w' 74 1 ≤ w 74 1 + 900 ∧ aQ w w') := by
                intro nn
                induction nn with
                | zero => intro y2c v3 hj hm; obtain ⟨j37, j38, j40, j41, j42, j43, j44⟩ := hj; exfalso; omega
                | succ nn ih36 =>
                  intro y2c v3 hj hm
                  obtain ⟨j37, j38, j40, j41, j42, j43, j44⟩ := hj
                  have b0 : v3 19 0 = w 19 0 := j37 _ _ (by unfold kNw; omega)
                  refine e_Ok.run (t' := (121, [(0, (1, 0)), (2, (0, y2c))], [(1, 0), (0, y2c)], v3)) 2 rfl ?_
                  refine e_Ok.getr (z := 19) rfl (el_o rfl) rfl rfl ((j37 0 4 (by unfold kNw; omega)).trans (Eq.trans (e_Has.eq hT rfl) (by omega))) (by omega) ?_
                  have h45 := (e_Has.get hT (c := 19) (k := 0) (lo := 0) (hi := 4) rfl (by decide))
                  refine e_Ok.getf (z := w 19 0) rfl (el_o rfl) rfl rfl ((j37 19 0 (by unfold kNw; omega)).trans rfl) (by omega) ?_
                  refine e_Ok.if2 rfl (fun h46 => ?_) (fun h46 => ?_)
                  · replace h46 : (y2c : Int) ≥ w 19 0 := h46
                    refine e_Ok.run (t' := (191, [(2, (0, 0)), (0, (1, 0))], [], v3)) 2 rfl ?_
                    have hL47 : ∀ (nn : Nat) (y2d : Int) (v4 : eW), e_fr kNw w v4 ∧ e_Has kTy v4 ∧ v4 74 0 = w 74 0 + 1 ∧ kI v4 OP OD CL h1 (-1) ∧ ((w 74 1 ≤ v4 74 1 ∧ v4 74 1 ≤ w 74 1 + 398)) ∧ (0 ≤ y2d ∧ y2d ≤ 4) ∧ aQ w v4 → 4 - y2d < nn → e_Ok 20 elay kcode eI (d + 1) 259 (191, [(0, (1, 0)), (2, (0, y2d))], [], v4) (fun r w' => r = [] ∧ e_Has kTy w' ∧ (e_fr kNw w w' ∧ w' 74 0 = w 74 0 + 1) ∧ ∃ h', h ≤ h' ∧ kI w' OP OD CL h' (-1) ∧ w 74 1 ≤ w' 74 1 ∧ w' 74 1 ≤ w 74 1 + 900 ∧ aQ w w') := by
                      intro nn
                      induction nn with
                      | zero => intro y2d v4 hj hm; obtain ⟨j49, j50, j51, j52, j53, j54, j55⟩ := hj; exfalso; omega
                      | succ nn ih48 =>
                        intro y2d v4 hj hm
                        obtain ⟨j49, j50, j51, j52, j53, j54, j55⟩ := hj
                        refine e_Ok.run (t' := (193, [(0, (1, 0)), (2, (0, y2d))], [(1, 0), (0, y2d)], v4)) 2 rfl ?_
                        refine e_Ok.getf (z := w 0 11) rfl (el_o rfl) rfl rfl ((j49 0 11 (by unfold kNw; omega)).trans rfl) (by omega) ?_
                        refine e_Ok.if2 rfl (fun h56 => ?_) (fun h56 => ?_)
                        · replace h56 : (y2d : Int) ≥ w 0 11 := h56
                          have hfk := j52.fk; have hbl := j52.bel
                          refine e_Ok.jp rfl ⟨rfl, j50, fun b g1 g2 => ⟨(hfk.1 b g1 g2).1, fun i g3 g4 => ?_⟩, fun p g1 g2 => ?_⟩ (fun w57 hw57 => ?_)
                          · have g5 := ((hfk.1 b g1 g2).2 i g3 g4).1; have g6 := e_Has.get j50 (c := 19) (k := 1) (lo := 0) (hi := 32) rfl (by decide); unfold kn1; omega
                          · have g5 := (hfk.2 p g1 g2).1; unfold kn1; omega
                          have fHv : e_fr kHv v4 w57 := by rw [← hw57]; exact e_hk_fr _
                          have QH := kI.hk j52 hw57
                          have f58 : e_fr kNw w w57 := e_fr.trans j49 (e_fr.mono fHv (fun c k q => by exact nw_kHv q))
                          have A59 : aQ w w57 := aQ.trans j55 (aQ.q (e_fr.mono fHv (fun c k q => nq_kHv q)) j50 QH.1)
                          refine e_Ok.rets rfl rfl ?_
                          exact ⟨rfl, QH.1, ⟨f58, (fHv _ _ (by unfold kHv; omega)).trans j51⟩, h1, j18, QH, by rw [fHv _ _ (by unfold kHv; omega)]; omega, by rw [fHv _ _ (by unfold kHv; omega)]; omega, A59⟩
                        · replace h56 : (y2d : Int) < w 0 11 := by have q : ¬ ((y2d : Int) ≥ w 0 11) := h56; omega
                          refine e_Ok.run (t' := (200, [(0, (1, 0)), (2, (0, y2d))], [(1, 0)], v4)) 1 rfl ?_
                          refine e_Ok.getr (z := 9) rfl (el_o rfl) rfl rfl ((j49 0 2 (by unfold kNw; omega)).trans (Eq.trans (e_Has.eq hT rfl) (by omega))) (by omega) ?_
                          refine e_Ok.run (t' := (204, [(0, (1, 0)), (2, (0, y2d))], [(0, y2d), (1, 9)], v4)) 1 rfl ?_
                          refine e_Ok.aald (z := 17 * y2d + 86) rfl (el_o rfl) rfl (by omega) ((j49 9 y2d (by unfold kNw; omega)).trans (Eq.trans (e_Has.eq hT (k9 (by omega))) (by omega))) (by omega) ?_
                          refine e_Ok.callV rfl (by omega) rfl (lA0 (a := y2d) (by omega) (by omega)) rfl rfl (c_11 (a := y2d) j50 (by omega) (j52.arm (by omega) (by omega)).1) (fun r60 w61 h62 => ?_)
                          obtain ⟨rfl, q63f, q63T, q63x⟩ := h62
                          have f64 : e_fr kNw w w61 := e_fr.trans j49 (e_fr.mono q63f (fun c k q => by exact nw_kOl (by omega) q))
                          have A65 : aQ w w61 := aQ.trans j55 (aQ.q (e_fr.mono q63f (fun c k q => nq_kOl (by omega) q)) j50 q63T)
                          have Q66 := kI.old j52 q63T (a := y2d) (by omega) q63f q63x
                          show e_Ok 20 elay kcode eI (d + 1) 259 (208, [(0, (1, 0)), (2, (0, y2d))], [], w61) _
                          refine e_Ok.inc (z := y2d + 1) rfl rfl (by omega) (by omega) ?_
                          show e_Ok 20 elay kcode eI (d + 1) 259 (211, [(2, (0, y2d + 1)), (0, (1, 0))], [], w61) _
                          refine e_Ok.run (t' := (191, [(2, (0, y2d + 1)), (0, (1, 0))], [], w61)) 1 rfl ?_
                          refine e_Ok.sub kAlk (e_sub_of rfl ?_) (ih48 (y2d + 1) w61 ⟨f64, q63T, ((q63f _ _ (by unfold kOl; omega)).trans j51), Q66, (by rw [q63f _ _ (by unfold kOl; omega)]; omega), by omega, A65⟩ (by omega))
                          exact ⟨rfl, rfl, trivial⟩
                    refine e_Ok.sub kAlk (e_sub_of rfl ?_) (hL47 (4 + 1 : Int).toNat 0 v3 ⟨j37, j38, j40, j41, by omega, by omega, j44⟩ (by omega))
                    exact ⟨rfl, rfl, trivial⟩
                  · replace h46 : (y2c : Int) < w 19 0 := by have q : ¬ ((y2c : Int) ≥ w 19 0) := h46; omega
                    refine e_Ok.run (t' := (131, [(0, (1, 0)), (2, (0, y2c))], [(1, 0)], v3)) 1 rfl ?_
                    refine e_Ok.getr (z := 19) rfl (el_o rfl) rfl rfl ((j37 0 4 (by unfold kNw; omega)).trans (Eq.trans (e_Has.eq hT rfl) (by omega))) (by omega) ?_
                    refine e_Ok.run (t' := (135, [(0, (1, 0)), (2, (0, y2c))], [(0, y2c), (1, 19)], v3)) 1 rfl ?_
                    refine e_Ok.callV rfl (by omega) rfl rfl rfl rfl (c_86 j38 (by omega) j41.fk (by omega)) (fun r67 w68 h69 => ?_)
                    obtain ⟨rfl, q70f, q70T, q70x⟩ := h69
                    have f71 : e_fr kNw w w68 := e_fr.trans j37 (e_fr.mono q70f (fun c k q => by exact nw_kWy q))
                    have A72 : aQ w w68 := aQ.trans j44 (aQ.q (e_fr.mono q70f (fun c k q => nq_kWy q)) j38 q70T)
                    have Q73 := kI.wy j41 q70T q70f q70x
                    have tG : w68 74 0 = w 74 0 + 1 := (q70f _ _ (by unfold kWy; omega)).trans j40
                    have vG : w68 74 1 = v3 74 1 := q70f _ _ (by unfold kWy; omega)
                    have bG : w68 19 0 = v3 19 0 := q70f _ _ (by unfold kWy; omega)
                    show e_Ok 20 elay kcode eI (d + 1) 259 (138, [(0, (1, 0)), (2, (0, y2c))], [], w68) _
                    refine e_Ok.run (t' := (139, [(0, (1, 0)), (2, (0, y2c))], [(1, 0)], w68)) 1 rfl ?_
                    refine e_Ok.getr (z := 19) rfl (el_o rfl) rfl rfl ((q70f 0 4 (by unfold kWy; omega)).trans ((j37 0 4 (by unfold kNw; omega)).trans (Eq.trans (e_Has.eq hT rfl) (by omega)))) (by omega) ?_
                    refine e_Ok.getr (z := 22) rfl (el_o rfl) rfl rfl ((q70f 19 4 (by unfold kWy; omega)).trans ((j37 19 4 (by unfold kNw; omega)).trans (Eq.trans (e_Has.eq hT rfl) (by omega)))) (by omega) ?_
                    refine e_Ok.run (t' := (146, [(0, (1, 0)), (2, (0, y2c))], [(0, y2c), (1, 22)], w68)) 1 rfl ?_
                    have h74 := (e_Has.get hT (c := 22) (k := y2c) (lo := (-1)) (hi := 63) rfl (by decide))
                    refine e_Ok.ald (z := w 22 y2c) rfl (el_o rfl) rfl (by omega) ((q70f 22 y2c (by unfold kWy; omega)).trans ((j37 22 y2c (by unfold kNw; omega)).trans rfl)) (by omega) ?_
                    refine e_Ok.if1 rfl (fun h75 => ?_) (fun h75 => ?_)
                    · replace h75 : (w 22 y2c : Int) < 0 := h75
                      refine e_Ok.inc (z := y2c + 1) rfl rfl (by omega) (by omega) ?_
                      show e_Ok 20 elay kcode eI (d + 1) 259 (186, [(2, (0, y2c + 1)), (0, (1, 0))], [], w68) _
                      refine e_Ok.run (t' := (119, [(2, (0, y2c + 1)), (0, (1, 0))], [], w68)) 1 rfl ?_
                      refine e_Ok.sub kAlk (e_sub_of rfl ?_) (ih36 (y2c + 1) w68 ⟨f71, q70T, tG, Q73, (by omega), by omega, A72⟩ (by omega))
                      exact ⟨rfl, rfl, trivial⟩
                    · replace h75 : (w 22 y2c : Int) ≥ 0 := by have q : ¬ ((w 22 y2c : Int) < 0) := h75; omega
                      refine e_Ok.run (t' := (151, [(0, (1, 0)), (2, (0, y2c))], [(1, 0)], w68)) 1 rfl ?_
                      refine e_Ok.getr (z := 10) rfl (el_o rfl) rfl rfl ((q70f 0 3 (by unfold kWy; omega)).trans ((j37 0 3 (by unfold kNw; omega)).trans (Eq.trans (e_Has.eq hT rfl) (by omega)))) (by omega) ?_
                      refine e_Ok.run (t' := (155, [(0, (1, 0)), (2, (0, y2c))], [(1, 0), (1, 10)], w68)) 1 rfl ?_
                      refine e_Ok.getr (z := 19) rfl (el_o rfl) rfl rfl ((q70f 0 4 (by unfold kWy; omega)).trans ((j37 0 4 (by unfold kNw; omega)).trans (Eq.trans (e_Has.eq hT rfl) (by omega)))) (by omega) ?_
                      refine e_Ok.getr (z := 22) rfl (el_o rfl) rfl rfl ((q70f 19 4 (by unfold kWy; omega)).trans ((j37 19 4 (by unfold kNw; omega)).trans (Eq.trans (e_Has.eq hT rfl) (by omega)))) (by omega) ?_
                      refine e_Ok.run (t' := (162, [(0, (1, 0)), (2, (0, y2c))], [(0, y2c), (1, 22), (1, 10)], w68)) 1 rfl ?_
                      refine e_Ok.ald (z := w 22 y2c) rfl (el_o rfl) rfl (by omega) ((q70f 22 y2c (by unfold kWy; omega)).trans ((j37 22 y2c (by unfold kNw; omega)).trans rfl)) (by omega) ?_
                      refine e_Ok.run (t' := (164, [(0, (1, 0)), (2, (0, y2c))], [(1, 0), (0, w 22 y2c), (1, 10)], w68)) 1 rfl ?_
                      refine e_Ok.getr (z := 19) rfl (el_o rfl) rfl rfl ((q70f 0 4 (by unfold kWy; omega)).trans ((j37 0 4 (by unfold kNw; omega)).trans (Eq.trans (e_Has.eq hT rfl) (by omega)))) (by omega) ?_
                      refine e_Ok.run (t' := (168, [(0, (1, 0)), (2, (0, y2c))], [(0, y2c), (1, 19), (0, w 22 y2c), (1, 10)], w68)) 1 rfl ?_
                      refine e_Ok.callV rfl (by omega) rfl rfl rfl rfl (c_87 (by omega) q70T (by omega) Q73.fk (by omega)) (fun r76 w77 h78 => ?_)
                      obtain ⟨z80, rfl, rfl, q79r⟩ := h78
                      show e_Ok 20 elay kcode eI (d + 1) 259 (171, [(0, (1, 0)), (2, (0, y2c))], [(0, z80), (0, w 22 y2c), (1, 10)], w68) _
                      have hJ83 : ∀ m82 : Int, 0 ≤ m82 ∧ m82 ≤ 1 → e_Ok 20 elay kcode eI (d + 1) 259 (179, [(0, (1, 0)), (2, (0, y2c))], [(0, m82), (0, w 22 y2c), (1, 10)], w68) (fun r w' => r = [] ∧ e_Has kTy w' ∧ (e_fr kNw w w' ∧ w' 74 0 = w 74 0 + 1) ∧ ∃ h', h ≤ h' ∧ kI w' OP OD CL h' (-1) ∧ w 74 1 ≤ w' 74 1 ∧ w' 74 1 ≤ w 74 1 + 900 ∧ aQ w w') := by
                        intro m82 m82r
                        refine e_Ok.callV rfl (by omega) rfl rfl rfl rfl (c_113 (by omega) q70T (by omega) (by omega) Q73.pf) (fun r84 w85 h86 => ?_)
                        obtain ⟨z88, rfl, q87f, q87T, q87r, q87x⟩ := h86
                        have f89 : e_fr kNw w w85 := e_fr.trans f71 (e_fr.mono q87f (fun c k q => by exact nw_kPo q))
                        have A90 : aQ w w85 := aQ.trans A72 (aQ.q (e_fr.mono q87f (fun c k q => nq_kPo q)) q70T q87T)
                        have Q91 := kI.po Q73 q87T (e_fr.mono q87f (fun c k g => ph_kPo g)) q87x
                        show e_Ok 20 elay kcode eI (d + 1) 259 (182, [(0, (1, 0)), (2, (0, y2c))], [(0, z88)], w85) _
                        refine e_Ok.run (t' := (183, [(0, (1, 0)), (2, (0, y2c))], [], w85)) 1 rfl ?_
                        refine e_Ok.inc (z := y2c + 1) rfl rfl (by omega) (by omega) ?_
                        show e_Ok 20 elay kcode eI (d + 1) 259 (186, [(2, (0, y2c + 1)), (0, (1, 0))], [], w85) _
                        refine e_Ok.run (t' := (119, [(2, (0, y2c + 1)), (0, (1, 0))], [], w85)) 1 rfl ?_
                        refine e_Ok.sub kAlk (e_sub_of rfl ?_) (ih36 (y2c + 1) w85 ⟨f89, q87T, ((q87f _ _ (by unfold kPo; omega)).trans tG), Q91, (by rw [q87f _ _ (by unfold kPo; omega)]; omega), by omega, A90⟩ (by omega))
                        exact ⟨rfl, rfl, trivial⟩
                      refine e_Ok.if1 rfl (fun h81 => ?_) (fun h81 => ?_)
                      · exact e_Ok.run 1 rfl (hJ83 0 (by omega))
                      · exact e_Ok.run 2 rfl (hJ83 1 (by omega))
              refine e_Ok.run (t' := (104, [(0, (1, 0)), (2, (0, y2b))], [(1, 0)], v2)) 1 rfl ?_
              refine e_Ok.getr (z := 74) rfl (el_o rfl) rfl rfl ((j26 0 5 (by unfold kNw; omega)).trans (Eq.trans (e_Has.eq hT rfl) (by omega))) (by omega) ?_
              have h92 := (e_Has.get j27 (c := 74) (k := 3) (lo := 0) (hi := 1) rfl (by decide))
              refine e_Ok.getf (z := v2 74 3) rfl (el_o rfl) rfl rfl rfl (by omega) ?_
              refine e_Ok.if1 rfl (fun h93 => ?_) (fun h93 => ?_)
              · replace h93 : (v2 74 3 : Int) = 0 := h93
                refine e_Ok.run (t' := (119, [(2, (0, 0)), (0, (1, 0))], [], v2)) 2 rfl ?_
                refine e_Ok.sub kAlk (e_sub_of rfl ?_) (hL35 (4 + 1 : Int).toNat 0 v2 ⟨j26, j27, j28, j29, (by omega), by omega, j32⟩ (by omega))
                exact ⟨rfl, rfl, trivial⟩
              · replace h93 : (v2 74 3 : Int) ≠ 0 := by have q : ¬ ((v2 74 3 : Int) = 0) := h93; omega
                refine e_Ok.run (t' := (114, [(0, (1, 0)), (2, (0, y2b))], [(1, 0)], v2)) 1 rfl ?_
                refine e_Ok.callV rfl (by omega) rfl rfl rfl rfl (c_262 (by omega) j27 j29 (by omega)) (fun r94 w95 h101 => ?_)
                obtain ⟨rfl, q103T, q103f, q103x⟩ := h101
                have f104 : e_fr kNw w w95 := e_fr.trans j26 (e_fr.mono q103f.1 (fun c k q => by exact nq_nw q))
                have A105 : aQ w w95 := aQ.trans j32 (aQ.q q103f.1 j27 q103T)
                show e_Ok 20 elay kcode eI (d + 1) 259 (117, [(0, (1, 0)), (2, (0, y2b))], [], w95) _
                refine e_Ok.run (t' := (119, [(2, (0, 0)), (0, (1, 0))], [], w95)) 2 rfl ?_
                refine e_Ok.sub kAlk (e_sub_of rfl ?_) (hL35 (4 + 1 : Int).toNat 0 w95 ⟨f104, q103T, (q103f.2.trans j28), q103x.1, (by have g := q103x.2; omega), by omega, A105⟩ (by omega))
                exact ⟨rfl, rfl, trivial⟩
            · replace h34 : (y2b : Int) < w 0 11 := by have q : ¬ ((y2b : Int) ≥ w 0 11) := h34; omega
              refine e_Ok.run (t' := (94, [(0, (1, 0)), (2, (0, y2b))], [(0, y2b), (1, 0)], v2)) 2 rfl ?_
              refine e_Ok.callV rfl (by omega) rfl rfl rfl rfl (c_260 (by omega) (a := y2b) j27 (by omega) j29 (by omega)) (fun r106 w107 h108 => ?_)
              obtain ⟨rfl, q109T, q109f, q109x⟩ := h108
              have f110 : e_fr kNw w w107 := e_fr.trans j26 (e_fr.mono q109f.1 (fun c k q => by exact q))
              have A111 : aQ w w107 := aQ.trans j32 (q109x.2.2.2)
              show e_Ok 20 elay kcode eI (d + 1) 259 (97, [(0, (1, 0)), (2, (0, y2b))], [], w107) _
              refine e_Ok.inc (z := y2b + 1) rfl rfl (by omega) (by omega) ?_
              show e_Ok 20 elay kcode eI (d + 1) 259 (100, [(2, (0, y2b + 1)), (0, (1, 0))], [], w107) _
              refine e_Ok.run (t' := (84, [(2, (0, y2b + 1)), (0, (1, 0))], [], w107)) 1 rfl ?_
              refine e_Ok.sub kAlk (e_sub_of rfl ?_) (ih25 (y2b + 1) w107 ⟨f110, q109T, (q109f.2.trans j28), q109x.1, (by have g := q109x.2; omega), by omega, A111⟩ (by omega))
              exact ⟨rfl, rfl, trivial⟩
        refine e_Ok.sub kAlk (e_sub_of rfl ?_) (hL24 (4 + 1 : Int).toNat 0 v1 ⟨j15, j16, j17, j19, by omega, by omega, j22⟩ (by omega))
        exact ⟨rfl, rfl, trivial⟩
      · replace h23 : (y2 : Int) < 16 := by have q : ¬ ((y2 : Int) ≥ 16) := h23; omega
        refine e_Ok.run (t' := (50, [(0, (1, 0)), (2, (0, y2))], [(1, 0)], v1)) 1 rfl ?_
        refine e_Ok.getr (z := 8) rfl (el_o rfl) rfl rfl ((j15 0 1 (by unfold kNw; omega)).trans (Eq.trans (e_Has.eq hT rfl) (by omega))) (by omega) ?_
        refine e_Ok.run (t' := (54, [(0, (1, 0)), (2, (0, y2))], [(0, y2), (1, 8)], v1)) 1 rfl ?_
        refine e_Ok.callV rfl (by omega) rfl rfl rfl rfl (c_42 (by omega) j16 (by omega) j19) (fun r112 w113 h114 => ?_)
        obtain ⟨z115, rfl, rfl, q116r, q116x⟩ := h114
        show e_Ok 20 elay kcode eI (d + 1) 259 (57, [(0, (1, 0)), (2, (0, y2))], [(0, z115)], v1) _
        refine e_Ok.if1 rfl (fun h117 => ?_) (fun h117 => ?_)
        · replace h117 : (z115 : Int) = 0 := h117
          refine e_Ok.inc (z := y2 + 1) rfl rfl (by omega) (by omega) ?_
          show e_Ok 20 elay kcode eI (d + 1) 259 (79, [(2, (0, y2 + 1)), (0, (1, 0))], [], v1) _
          refine e_Ok.run (t' := (43, [(2, (0, y2 + 1)), (0, (1, 0))], [], v1)) 1 rfl ?_
          refine e_Ok.sub kAlk (e_sub_of rfl ?_) (ih14 (y2 + 1) v1 h1 ⟨j15, j16, j17, j18, j19, (by omega), by omega, j22⟩ (by omega))
          exact ⟨rfl, rfl, trivial⟩
        · replace h117 : (z115 : Int) ≠ 0 := by have q : ¬ ((z115 : Int) = 0) := h117; omega
          refine e_Ok.run (t' := (61, [(0, (1, 0)), (2, (0, y2))], [(1, 0)], v1)) 1 rfl ?_
          refine e_Ok.getr (z := 8) rfl (el_o rfl) rfl rfl ((j15 0 1 (by unfold kNw; omega)).trans (Eq.trans (e_Has.eq hT rfl) (by omega))) (by omega) ?_
          refine e_Ok.run (t' := (65, [(0, (1, 0)), (2, (0, y2))], [(1, 0), (1, 8)], v1)) 1 rfl ?_
          refine e_Ok.getr (z := 8) rfl (el_o rfl) rfl rfl ((j15 0 1 (by unfold kNw; omega)).trans (Eq.trans (e_Has.eq hT rfl) (by omega))) (by omega) ?_
          refine e_Ok.getr (z := 82) rfl (el_o rfl) rfl rfl ((j15 8 4 (by unfold kNw; omega)).trans (Eq.trans (e_Has.eq hT rfl) (by omega))) (by omega) ?_
          refine e_Ok.run (t' := (72, [(0, (1, 0)), (2, (0, y2))], [(0, y2), (1, 82), (1, 8)], v1)) 1 rfl ?_
          refine e_Ok.aald (z := 6 * y2 + 154) rfl (el_o rfl) rfl (by omega) ((j15 82 y2 (by unfold kNw; omega)).trans (Eq.trans (e_Has.eq hT (k82 (by omega))) (by omega))) (by omega) ?_
          have hact := q116x (by omega)
          have tq := j19.ts (t := y2) (by omega) (by omega)
          have ta := tq.1.1 (by omega) (by omega)
          have tb := e_Has.get j16 (c := 6 * y2 + 154) (k := 2) (lo := -1) (hi := 3) (kT_2 (t := y2) rfl (by omega)) (by decide)
          refine e_Ok.callV rfl (by omega) rfl rfl rfl rfl (c_43 (by omega) j16 (by omega) (kI.weak j19 (by decide)) (a := v1 (6 * y2 + 154) 2) (by omega) rfl rfl (by omega) hact ((tq.2 hact.1 hact.2).2 (by omega)) (by omega)) (fun r118 w119 h120 => ?_)
          obtain ⟨rfl, q121T, q121f, q121h, q121x⟩ := h120
          have f122 : e_fr kNw w w119 := e_fr.trans j15 (e_fr.mono q121f.1 (fun c k q => by exact nq_nw q))
          have A123 : aQ w w119 := aQ.trans j22 (aQ.q q121f.1 j16 q121T)
          show e_Ok 20 elay kcode eI (d + 1) 259 (76, [(0, (1, 0)), (2, (0, y2))], [], w119) _
          refine e_Ok.inc (z := y2 + 1) rfl rfl (by omega) (by omega) ?_
          show e_Ok 20 elay kcode eI (d + 1) 259 (79, [(2, (0, y2 + 1)), (0, (1, 0))], [], w119) _
          refine e_Ok.run (t' := (43, [(2, (0, y2 + 1)), (0, (1, 0))], [], w119)) 1 rfl ?_
          refine e_Ok.sub kAlk (e_sub_of rfl ?_) (ih14 (y2 + 1) w119 q121h ⟨f122, q121T, (q121f.2.trans j17), (Int.le_trans j18 q121x.1), q121x.2.1, (by have g := q121x.2.2; omega), by omega, A123⟩ (by omega))
          exact ⟨rfl, rfl, trivial⟩
  refine e_Ok.run (t' := (22, [(1, (0, z8)), (0, (1, 0))], [(1, 0)], w6)) 1 rfl ?_
  refine e_Ok.getr (z := 74) rfl (el_o rfl) rfl rfl ((q9f 0 5 (by unfold kCi; omega)).trans (by rw [← hw1]; exact (e_up_ne _ _ (Or.inl (by omega))).trans (Eq.trans (e_Has.eq hT rfl) (by omega)))) (by omega) ?_
  have h124 := (e_Has.get hT (c := 74) (k := 3) (lo := 0) (hi := 1) rfl (by decide))
  refine e_Ok.getf (z := w 74 3) rfl (el_o rfl) rfl rfl ((q9f 74 3 (by unfold kCi; omega)).trans (by rw [← hw1]; exact (e_up_ne _ _ (Or.inr (by omega))).trans rfl)) (by omega) ?_
  refine e_Ok.if1 rfl (fun h125 => ?_) (fun h125 => ?_)
  · replace h125 : (w 74 3 : Int) = 0 := h125
    refine e_Ok.run (t' := (43, [(2, (0, 0)), (1, (0, z8)), (0, (1, 0))], [], w6)) 2 rfl ?_
    refine e_Ok.sub kAlk (e_sub_of rfl ?_) (hL13 (16 + 1 : Int).toNat 0 w6 h ⟨f10, q9T, tB, Int.le_refl h, Q12, (by omega), by omega, A11⟩ (by omega))
    exact ⟨rfl, rfl, trivial⟩
  · replace h125 : (w 74 3 : Int) ≠ 0 := by have q : ¬ ((w 74 3 : Int) = 0) := h125; omega
    refine e_Ok.run (t' := (32, [(1, (0, z8)), (0, (1, 0))], [(0, z8)], w6)) 1 rfl ?_
    refine e_Ok.if1 rfl (fun h126 => ?_) (fun h126 => ?_)
    · replace h126 : (z8 : Int) < 0 := h126
      refine e_Ok.run (t' := (43, [(2, (0, 0)), (1, (0, z8)), (0, (1, 0))], [], w6)) 2 rfl ?_
      refine e_Ok.sub kAlk (e_sub_of rfl ?_) (hL13 (16 + 1 : Int).toNat 0 w6 h ⟨f10, q9T, tB, Int.le_refl h, Q12, (by omega), by omega, A11⟩ (by omega))
      exact ⟨rfl, rfl, trivial⟩
    · replace h126 : (z8 : Int) ≥ 0 := by have q : ¬ ((z8 : Int) < 0) := h126; omega
      refine e_Ok.run (t' := (38, [(1, (0, z8)), (0, (1, 0))], [(0, z8), (0, 1), (1, 0)], w6)) 3 rfl ?_
      refine e_Ok.callV rfl (by omega) rfl rfl rfl rfl (c_265 (by omega) q9T (by omega) (by omega) Q12 (by omega)) (fun r127 w128 h129 => ?_)
      obtain ⟨rfl, q130T, q130f, q130x⟩ := h129
      have f131 : e_fr kNw w w128 := e_fr.trans f10 (e_fr.mono q130f.1 (fun c k q => by exact nq_nw q))
      have A132 : aQ w w128 := aQ.trans A11 (aQ.q q130f.1 q9T q130T)
      show e_Ok 20 elay kcode eI (d + 1) 259 (41, [(1, (0, z8)), (0, (1, 0))], [], w128) _
      refine e_Ok.run (t' := (43, [(2, (0, 0)), (1, (0, z8)), (0, (1, 0))], [], w128)) 2 rfl ?_
      refine e_Ok.sub kAlk (e_sub_of rfl ?_) (hL13 (16 + 1 : Int).toNat 0 w128 h ⟨f131, q130T, (q130f.2.trans tB), Int.le_refl h, q130x.1, (by have g := q130x.2.2; omega), by omega, A132⟩ (by omega))
      exact ⟨rfl, rfl, trivial⟩
end
