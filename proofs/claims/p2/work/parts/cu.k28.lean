noncomputable section
/-! the class: a tick -/
section Kt
variable {w w' : eW} {OP OD CL : Int → Int → Int} {h t0 : Int}
/-- parts went on along a belt -/
theorem kI.wy (q : kI w OP OD CL h t0) (hT : e_Has kTy w') (f : e_fr kWy w w') (hk : ∀ p, kn1 (w 37 p) → kn1 (w' 37 p)) : kI w' OP OD CL h t0 := by
  have hB := q.bel
  have e : ∀ c k, c ≠ 37 → w' c k = w c k := fun c k g => f c k g
  refine kI.fl q hT (a := 0) (by omega) (f.mono (fun c k g => by unfold kWy at g; exact Or.inl (by omega))) ⟨fun b g1 g2 => ?_, fun p g1 g2 => ?_⟩ (fun b g1 g2 => ?_)
  · rw [e 19 0 (by decide)] at g2
    have qb := q.fk.1 b g1 g2
    unfold fO at qb ⊢
    rw [e 35 b (by decide)]
    refine ⟨qb.1, fun i g3 g4 => ?_⟩
    rw [e (b + 31) i (by omega), e 19 1 (by decide), e 36 _ (by decide)]
    exact qb.2 i g3 g4
  · rw [e 19 1 (by decide)] at g2
    have qp := q.fk.2 p g1 g2
    unfold fP at qp ⊢
    rw [e 36 p (by decide), e 39 p (by decide), e 40 p (by decide), e 19 0 (by decide)]
    exact ⟨qp.1, fun g => ⟨(qp.2.1 g).1, hk p (qp.2.1 g).2⟩, qp.2.2⟩
  · exact ((q.2.1 b g1 g2).2.2.2.2.1).eq (fun c k g => e c k (by omega))
/-- an arm keeps its points -/
theorem kI.old {a : Int} (q : kI w OP OD CL h t0) (hT : e_Has kTy w') (ha : 0 ≤ a ∧ a ≤ 3) (f : e_fr (kOl a) w w') (hO : oK w' a) : kI w' OP OD CL h t0 := by
  have hn := (kn_joints q.1 ha).2
  have e : ∀ c k, c ≠ 17 * a + 90 → c ≠ 17 * a + 91 → w' c k = w c k := fun c k g1 g2 => f c k (by unfold kOl; omega)
  obtain ⟨p1, p2, p3, p4, p5, p6⟩ := q.2.1 a ha.1 ha.2
  refine kI.ar q hT ha (f.mono (fun c k g => by unfold kOl at g; exact Or.inr (Or.inr (Or.inr (Or.inr (Or.inl (by omega))))))) (q.lgk.fr f (by unfold kOl; omega) (fun k => by unfold kOl; omega)) ⟨p1.eq (fun c k g => e c k (by omega) (by omega)), hO, ?_, p4.eq hn (fun c k g => e c k (by omega) (by omega)), p5.eq (fun c k g => e c k (by omega) (by omega)), p6.eq hn (fun c k g => e c k (by omega) (by omega))⟩ (fun g g9 => by rw [e _ _ (by omega) (by omega)]; exact q.pw g a ha.1 ha.2 g9)
  rw [e (17 * a + 86) 8 (by omega) (by omega), e (17 * a + 86) 11 (by omega) (by omega)]
  exact p3.eq hn (fun c k g1 g2 g3 g4 => e c k (by omega) (by omega))
theorem hm_kCi {c k : Int} (g : kCi c k) : kHm c k := by
  unfold kCi at g
  unfold kHm
  have h1 : 76 ≤ c ∧ c ≤ 81 := by omega
  simp only [h1.1, h1.2, true_and, true_or, or_true]
end Kt
set_option maxHeartbeats 4000000 in
theorem c_259 {d : Nat} (hd : 29 ≤ d) {w : eW} (hT : e_Has kTy w) {OP OD CL : Int → Int → Int} {h : Int} (q : kI w OP OD CL h (-1)) (h0 : 0 ≤ h) (ht : w 74 0 < 6000) (he : w 74 1 ≤ 1900000000) : e_Ok 20 elay kcode eI d 259 (0, [(0, (1, 0))], [], w) (fun r w' => r = [] ∧ e_Has kTy w' ∧ (e_fr kNw w w' ∧ w' 74 0 = w 74 0 + 1) ∧ ∃ h', h ≤ h' ∧ kI w' OP OD CL h' (-1) ∧ w 74 1 ≤ w' 74 1 ∧ w' 74 1 ≤ w 74 1 + 900) := by
  obtain ⟨d, rfl⟩ : ∃ e, d = e + 1 := ⟨d - 1, by omega⟩
  have h74 := e_Has.get hT (c := 74) (k := 1) (lo := 0) (hi := 2147483647) rfl (by decide)
  have h740 := e_Has.get hT (c := 74) (k := 0) (lo := 0) (hi := 6000) rfl (by decide)
  refine e_Ok.run (t' := (1, [(0, (1, 0))], [(1, 0)], w)) 1 rfl ?_
  refine e_Ok.getr (z := 74) rfl rfl rfl rfl (Eq.trans (e_Has.eq hT rfl) (by omega)) (by omega) ?_
  refine e_Ok.run (t' := (5, [(0, (1, 0))], [(1, 74), (1, 74)], w)) 1 rfl ?_
  refine e_Ok.getf (z := w 74 0) rfl rfl rfl rfl rfl (by omega) ?_
  refine e_Ok.run (t' := (9, [(0, (1, 0))], [(0, 1), (0, w 74 0), (1, 74)], w)) 1 rfl ?_
  refine e_Ok.add (z := w 74 0 + 1) rfl (by omega) (by omega) ?_
  refine e_Ok.putf rfl rfl rfl rfl ?_
  generalize hw1 : e_up w 74 0 (w 74 0 + 1) = w1
  have f2 : e_fr kNw w w1 := e_fr.up (e_fr.refl w) hw1 (by unfold kNw; omega)
  have hT3 : e_Has kTy w1 := e_Has.upr hT hw1 rfl (by omega)
  have QA := kI.hu q hT3 hw1 (hm_74 (by omega))
  have tA : w1 74 0 = w 74 0 + 1 := (by rw [← hw1]; exact e_up_eq _ _ _ _)
  have vA : w1 74 1 = w 74 1 := (by rw [← hw1]; exact (e_up_ne _ _ (Or.inr (by omega))).trans rfl)
  refine e_Ok.run (t' := (14, [(0, (1, 0))], [(1, 0)], w1)) 1 rfl ?_
  refine e_Ok.getr (z := 74) rfl rfl rfl rfl (by rw [← hw1]; exact (e_up_ne _ _ (Or.inl (by omega))).trans (Eq.trans (e_Has.eq hT rfl) (by omega))) (by omega) ?_
  refine e_Ok.callV rfl (by omega) rfl rfl rfl rfl (c_32 (by omega) hT3) (fun r4 w5 h6 => ?_)
  obtain ⟨z7, rfl, q8f, q8T, q8r⟩ := h6
  have f9 : e_fr kNw w w5 := e_fr.trans f2 (e_fr.mono q8f (fun c k q => by exact nw_kCi q))
  have Q10 := kI.hm QA q8T (e_fr.mono q8f (fun c k g => hm_kCi g))
  have tB : w5 74 0 = w 74 0 + 1 := (q8f _ _ (by unfold kCi; omega)).trans tA
  have vB : w5 74 1 = w 74 1 := (q8f _ _ (by unfold kCi; omega)).trans vA
  show e_Ok 20 elay kcode eI (d + 1) 259 (20, [(0, (1, 0))], [(0, z7)], w5) _
  refine e_Ok.run (t' := (22, [(1, (0, z7)), (0, (1, 0))], [(1, 0)], w5)) 2 rfl ?_
  refine e_Ok.getr (z := 74) rfl rfl rfl rfl ((q8f 0 5 (by unfold kCi; omega)).trans (by rw [← hw1]; exact (e_up_ne _ _ (Or.inl (by omega))).trans (Eq.trans (e_Has.eq hT rfl) (by omega)))) (by omega) ?_
  have h11 := (e_Has.get hT (c := 74) (k := 3) (lo := 0) (hi := 1) rfl (by decide))
  refine e_Ok.getf (z := w 74 3) rfl rfl rfl rfl ((q8f 74 3 (by unfold kCi; omega)).trans (by rw [← hw1]; exact (e_up_ne _ _ (Or.inr (by omega))).trans rfl)) (by omega) ?_
  refine e_Ok.if1 rfl (fun h12 => ?_) (fun h12 => ?_)
  · replace h12 : (w 74 3 : Int) = 0 := h12
    refine e_Ok.run (t' := (43, [(2, (0, 0)), (1, (0, z7)), (0, (1, 0))], [], w5)) 2 rfl ?_
    have hL13 : ∀ (nn : Nat) (y2 : Int) (v1 : eW) (h1 : Int), e_fr kNw w v1 ∧ e_Has kTy v1 ∧ v1 74 0 = w 74 0 + 1 ∧ h ≤ h1 ∧ kI v1 OP OD CL h1 (-1) ∧ ((w 74 1 ≤ v1 74 1 ∧ v1 74 1 ≤ w 74 1 + 5 + 24 * y2)) ∧ (0 ≤ y2 ∧ y2 ≤ 16) → 16 - y2 < nn → e_Ok 20 elay kcode eI (d + 1) 259 (43, [(0, (1, 0)), (2, (0, y2))], [], v1) (fun r w' => r = [] ∧ e_Has kTy w' ∧ (e_fr kNw w w' ∧ w' 74 0 = w 74 0 + 1) ∧ ∃ h', h ≤ h' ∧ kI w' OP OD CL h' (-1) ∧ w 74 1 ≤ w' 74 1 ∧ w' 74 1 ≤ w 74 1 + 900) := by
      intro nn
      induction nn with
      | zero => intro y2 v1 h1 hj hm; obtain ⟨j15, j16, j17, j18, j19, j20, j21⟩ := hj; exfalso; omega
      | succ nn ih14 =>
        intro y2 v1 h1 hj hm
        obtain ⟨j15, j16, j17, j18, j19, j20, j21⟩ := hj
        refine e_Ok.run (t' := (46, [(0, (1, 0)), (2, (0, y2))], [(0, 16), (0, y2)], v1)) 2 rfl ?_
        refine e_Ok.if2 rfl (fun h22 => ?_) (fun h22 => ?_)
        · replace h22 : (y2 : Int) ≥ 16 := h22
          refine e_Ok.run (t' := (84, [(2, (0, 0)), (0, (1, 0))], [], v1)) 2 rfl ?_
          have hL23 : ∀ (nn : Nat) (y2b : Int) (v2 : eW), e_fr kNw w v2 ∧ e_Has kTy v2 ∧ v2 74 0 = w 74 0 + 1 ∧ kI v2 OP OD CL h1 (-1) ∧ ((w 74 1 ≤ v2 74 1 ∧ v2 74 1 ≤ w 74 1 + 389 + y2b)) ∧ (0 ≤ y2b ∧ y2b ≤ 4) → 4 - y2b < nn → e_Ok 20 elay kcode eI (d + 1) 259 (84, [(0, (1, 0)), (2, (0, y2b))], [], v2) (fun r w' => r = [] ∧ e_Has kTy w' ∧ (e_fr kNw w w' ∧ w' 74 0 = w 74 0 + 1) ∧ ∃ h', h ≤ h' ∧ kI w' OP OD CL h' (-1) ∧ w 74 1 ≤ w' 74 1 ∧ w' 74 1 ≤ w 74 1 + 900) := by
            intro nn
            induction nn with
            | zero => intro y2b v2 hj hm; obtain ⟨j25, j26, j27, j28, j29, j30⟩ := hj; exfalso; omega
            | succ nn ih24 =>
              intro y2b v2 hj hm
              obtain ⟨j25, j26, j27, j28, j29, j30⟩ := hj
              refine e_Ok.run (t' := (86, [(0, (1, 0)), (2, (0, y2b))], [(1, 0), (0, y2b)], v2)) 2 rfl ?_
              have h31 := (e_Has.get hT (c := 0) (k := 11) (lo := 0) (hi := 4) rfl (by decide))
              refine e_Ok.getf (z := w 0 11) rfl rfl rfl rfl ((j25 0 11 (by unfold kNw; omega)).trans rfl) (by omega) ?_
              refine e_Ok.if2 rfl (fun h32 => ?_) (fun h32 => ?_)
              · replace h32 : (y2b : Int) ≥ w 0 11 := h32
                refine e_Ok.run (t' := (104, [(0, (1, 0)), (2, (0, y2b))], [(1, 0)], v2)) 1 rfl ?_
                refine e_Ok.getr (z := 74) rfl rfl rfl rfl ((j25 0 5 (by unfold kNw; omega)).trans (Eq.trans (e_Has.eq hT rfl) (by omega))) (by omega) ?_
                have h33 := (e_Has.get j26 (c := 74) (k := 3) (lo := 0) (hi := 1) rfl (by decide))
                refine e_Ok.getf (z := v2 74 3) rfl rfl rfl rfl rfl (by omega) ?_
                refine e_Ok.if1 rfl (fun h34 => ?_) (fun h34 => ?_)
                · replace h34 : (v2 74 3 : Int) = 0 := h34
                  refine e_Ok.run (t' := (119, [(2, (0, 0)), (0, (1, 0))], [], v2)) 2 rfl ?_
                  have hL35 : ∀ (nn : Nat) (y2c : Int) (v3 : eW), e_fr kNw w v3 ∧ e_Has kTy v3 ∧ v3 74 0 = w 74 0 + 1 ∧ kI v3 OP OD CL h1 (-1) ∧ ((w 74 1 ≤ v3 74 1 ∧ v3 74 1 ≤ w 74 1 + 398)) ∧ (0 ≤ y2c ∧ y2c ≤ 4) → 4 - y2c < nn → e_Ok 20 elay kcode eI (d + 1) 259 (119, [(0, (1, 0)), (2, (0, y2c))], [], v3) (fun r w' => r = [] ∧ e_Has kTy w' ∧ (e_fr kNw w w' ∧ w' 74 0 = w 74 0 + 1) ∧ ∃ h', h ≤ h' ∧ kI w' OP OD CL h' (-1) ∧ w 74 1 ≤ w' 74 1 ∧ w' 74 1 ≤ w 74 1 + 900) := by
                    intro nn
                    induction nn with
                    | zero => intro y2c v3 hj hm; obtain ⟨j37, j38, j40, j41, j42, j43⟩ := hj; exfalso; omega
                    | succ nn ih36 =>
                      intro y2c v3 hj hm
                      obtain ⟨j37, j38, j40, j41, j42, j43⟩ := hj
                      have b0 : v3 19 0 = w 19 0 := j37 _ _ (by unfold kNw; omega)
                      refine e_Ok.run (t' := (121, [(0, (1, 0)), (2, (0, y2c))], [(1, 0), (0, y2c)], v3)) 2 rfl ?_
                      refine e_Ok.getr (z := 19) rfl rfl rfl rfl ((j37 0 4 (by unfold kNw; omega)).trans (Eq.trans (e_Has.eq hT rfl) (by omega))) (by omega) ?_
                      have h44 := (e_Has.get hT (c := 19) (k := 0) (lo := 0) (hi := 4) rfl (by decide))
                      refine e_Ok.getf (z := w 19 0) rfl rfl rfl rfl ((j37 19 0 (by unfold kNw; omega)).trans rfl) (by omega) ?_
                      refine e_Ok.if2 rfl (fun h45 => ?_) (fun h45 => ?_)
                      · replace h45 : (y2c : Int) ≥ w 19 0 := h45
                        refine e_Ok.run (t' := (191, [(2, (0, 0)), (0, (1, 0))], [], v3)) 2 rfl ?_
                        have hL46 : ∀ (nn : Nat) (y2d : Int) (v4 : eW), e_fr kNw w v4 ∧ e_Has kTy v4 ∧ v4 74 0 = w 74 0 + 1 ∧ kI v4 OP OD CL h1 (-1) ∧ ((w 74 1 ≤ v4 74 1 ∧ v4 74 1 ≤ w 74 1 + 398)) ∧ (0 ≤ y2d ∧ y2d ≤ 4) → 4 - y2d < nn → e_Ok 20 elay kcode eI (d + 1) 259 (191, [(0, (1, 0)), (2, (0, y2d))], [], v4) (fun r w' => r = [] ∧ e_Has kTy w' ∧ (e_fr kNw w w' ∧ w' 74 0 = w 74 0 + 1) ∧ ∃ h', h ≤ h' ∧ kI w' OP OD CL h' (-1) ∧ w 74 1 ≤ w' 74 1 ∧ w' 74 1 ≤ w 74 1 + 900) := by
                          intro nn
                          induction nn with
                          | zero => intro y2d v4 hj hm; obtain ⟨j48, j49, j50, j51, j52, j53⟩ := hj; exfalso; omega
                          | succ nn ih47 =>
                            intro y2d v4 hj hm
                            obtain ⟨j48, j49, j50, j51, j52, j53⟩ := hj
                            refine e_Ok.run (t' := (193, [(0, (1, 0)), (2, (0, y2d))], [(1, 0), (0, y2d)], v4)) 2 rfl ?_
                            refine e_Ok.getf (z := w 0 11) rfl rfl rfl rfl ((j48 0 11 (by unfold kNw; omega)).trans rfl) (by omega) ?_
                            refine e_Ok.if2 rfl (fun h54 => ?_) (fun h54 => ?_)
                            · replace h54 : (y2d : Int) ≥ w 0 11 := h54
                              have hfk := j51.fk; have hbl := j51.bel
                              refine e_Ok.jp rfl ⟨rfl, j49, fun b g1 g2 => ⟨(hfk.1 b g1 g2).1, fun i g3 g4 => ?_⟩, fun p g1 g2 => ?_⟩ (fun w55 hw55 => ?_)
                              · have g5 := ((hfk.1 b g1 g2).2 i g3 g4).1; have g6 := e_Has.get j49 (c := 19) (k := 1) (lo := 0) (hi := 32) rfl (by decide); unfold kn1; omega
                              · have g5 := (hfk.2 p g1 g2).1; unfold kn1; omega
                              have fHv : e_fr kHv v4 w55 := by rw [← hw55]; exact e_hk_fr _
                              have QH := kI.hk j51 hw55
                              have f56 : e_fr kNw w w55 := e_fr.trans j48 (e_fr.mono fHv (fun c k q => by exact nw_kHv q))
                              refine e_Ok.rets rfl rfl ?_
                              exact ⟨rfl, QH.1, ⟨f56, (fHv _ _ (by unfold kHv; omega)).trans j50⟩, h1, j18, QH, by rw [fHv _ _ (by unfold kHv; omega)]; omega, by rw [fHv _ _ (by unfold kHv; omega)]; omega⟩
                            · replace h54 : (y2d : Int) < w 0 11 := by have q : ¬ ((y2d : Int) ≥ w 0 11) := h54; omega
                              refine e_Ok.run (t' := (200, [(0, (1, 0)), (2, (0, y2d))], [(1, 0)], v4)) 1 rfl ?_
                              refine e_Ok.getr (z := 9) rfl rfl rfl rfl ((j48 0 2 (by unfold kNw; omega)).trans (Eq.trans (e_Has.eq hT rfl) (by omega))) (by omega) ?_
                              refine e_Ok.run (t' := (204, [(0, (1, 0)), (2, (0, y2d))], [(0, y2d), (1, 9)], v4)) 1 rfl ?_
                              refine e_Ok.aald (z := 17 * y2d + 86) rfl rfl rfl (by omega) ((j48 9 y2d (by unfold kNw; omega)).trans (Eq.trans (e_Has.eq hT (k9 (by omega))) (by omega))) (by omega) ?_
                              refine e_Ok.callV rfl (by omega) rfl (lA0 (a := y2d) (by omega) (by omega)) rfl rfl (c_11 (a := y2d) j49 (by omega) (j51.arm (by omega) (by omega)).1) (fun r57 w58 h59 => ?_)
                              obtain ⟨rfl, q60f, q60T, q60x⟩ := h59
                              have f61 : e_fr kNw w w58 := e_fr.trans j48 (e_fr.mono q60f (fun c k q => by exact nw_kOl (by omega) q))
                              have Q62 := kI.old j51 q60T (a := y2d) (by omega) q60f q60x
                              show e_Ok 20 elay kcode eI (d + 1) 259 (208, [(0, (1, 0)), (2, (0, y2d))], [], w58) _
                              refine e_Ok.inc (z := y2d + 1) rfl rfl (by omega) (by omega) ?_
                              show e_Ok 20 elay kcode eI (d + 1) 259 (211, [(2, (0, y2d + 1)), (0, (1, 0))], [], w58) _
                              refine e_Ok.run (t' := (191, [(2, (0, y2d + 1)), (0, (1, 0))], [], w58)) 1 rfl ?_
                              refine e_Ok.sub kAlk (e_sub_of rfl ?_) (ih47 (y2d + 1) w58 ⟨f61, q60T, ((q60f _ _ (by unfold kOl; omega)).trans j50), Q62, (by rw [q60f _ _ (by unfold kOl; omega)]; omega), by omega⟩ (by omega))
                              exact ⟨rfl, rfl, trivial⟩
                        refine e_Ok.sub kAlk (e_sub_of rfl ?_) (hL46 (4 + 1 : Int).toNat 0 v3 ⟨j37, j38, j40, j41, by omega, by omega⟩ (by omega))
                        exact ⟨rfl, rfl, trivial⟩
                      · replace h45 : (y2c : Int) < w 19 0 := by have q : ¬ ((y2c : Int) ≥ w 19 0) := h45; omega
                        refine e_Ok.run (t' := (131, [(0, (1, 0)), (2, (0, y2c))], [(1, 0)], v3)) 1 rfl ?_
                        refine e_Ok.getr (z := 19) rfl rfl rfl rfl ((j37 0 4 (by unfold kNw; omega)).trans (Eq.trans (e_Has.eq hT rfl) (by omega))) (by omega) ?_
                        refine e_Ok.run (t' := (135, [(0, (1, 0)), (2, (0, y2c))], [(0, y2c), (1, 19)], v3)) 1 rfl ?_
                        refine e_Ok.callV rfl (by omega) rfl rfl rfl rfl (c_86 j38 (by omega) j41.fk (by omega)) (fun r63 w64 h65 => ?_)
                        obtain ⟨rfl, q66f, q66T, q66x⟩ := h65
                        have f67 : e_fr kNw w w64 := e_fr.trans j37 (e_fr.mono q66f (fun c k q => by exact nw_kWy q))
                        have Q68 := kI.wy j41 q66T q66f q66x
                        have tG : w64 74 0 = w 74 0 + 1 := (q66f _ _ (by unfold kWy; omega)).trans j40
                        have vG : w64 74 1 = v3 74 1 := q66f _ _ (by unfold kWy; omega)
                        have bG : w64 19 0 = v3 19 0 := q66f _ _ (by unfold kWy; omega)
                        show e_Ok 20 elay kcode eI (d + 1) 259 (138, [(0, (1, 0)), (2, (0, y2c))], [], w64) _
                        refine e_Ok.run (t' := (139, [(0, (1, 0)), (2, (0, y2c))], [(1, 0)], w64)) 1 rfl ?_
                        refine e_Ok.getr (z := 19) rfl rfl rfl rfl ((q66f 0 4 (by unfold kWy; omega)).trans ((j37 0 4 (by unfold kNw; omega)).trans (Eq.trans (e_Has.eq hT rfl) (by omega)))) (by omega) ?_
                        refine e_Ok.getr (z := 22) rfl rfl rfl rfl ((q66f 19 4 (by unfold kWy; omega)).trans ((j37 19 4 (by unfold kNw; omega)).trans (Eq.trans (e_Has.eq hT rfl) (by omega)))) (by omega) ?_
                        refine e_Ok.run (t' := (146, [(0, (1, 0)), (2, (0, y2c))], [(0, y2c), (1, 22)], w64)) 1 rfl ?_
                        have h69 := (e_Has.get hT (c := 22) (k := y2c) (lo := (-1)) (hi := 63) rfl (by decide))
                        refine e_Ok.ald (z := w 22 y2c) rfl rfl rfl (by omega) ((q66f 22 y2c (by unfold kWy; omega)).trans ((j37 22 y2c (by unfold kNw; omega)).trans rfl)) (by omega) ?_
                        refine e_Ok.if1 rfl (fun h70 => ?_) (fun h70 => ?_)
                        · replace h70 : (w 22 y2c : Int) < 0 := h70
                          refine e_Ok.inc (z := y2c + 1) rfl rfl (by omega) (by omega) ?_
                          show e_Ok 20 elay kcode eI (d + 1) 259 (186, [(2, (0, y2c + 1)), (0, (1, 0))], [], w64) _
                          refine e_Ok.run (t' := (119, [(2, (0, y2c + 1)), (0, (1, 0))], [], w64)) 1 rfl ?_
                          refine e_Ok.sub kAlk (e_sub_of rfl ?_) (ih36 (y2c + 1) w64 ⟨f67, q66T, tG, Q68, (by omega), by omega⟩ (by omega))
                          exact ⟨rfl, rfl, trivial⟩
                        · replace h70 : (w 22 y2c : Int) ≥ 0 := by have q : ¬ ((w 22 y2c : Int) < 0) := h70; omega
                          refine e_Ok.run (t' := (151, [(0, (1, 0)), (2, (0, y2c))], [(1, 0)], w64)) 1 rfl ?_
                          refine e_Ok.getr (z := 10) rfl rfl rfl rfl ((q66f 0 3 (by unfold kWy; omega)).trans ((j37 0 3 (by unfold kNw; omega)).trans (Eq.trans (e_Has.eq hT rfl) (by omega)))) (by omega) ?_
                          refine e_Ok.run (t' := (155, [(0, (1, 0)), (2, (0, y2c))], [(1, 0), (1, 10)], w64)) 1 rfl ?_
                          refine e_Ok.getr (z := 19) rfl rfl rfl rfl ((q66f 0 4 (by unfold kWy; omega)).trans ((j37 0 4 (by unfold kNw; omega)).trans (Eq.trans (e_Has.eq hT rfl) (by omega)))) (by omega) ?_
                          refine e_Ok.getr (z := 22) rfl rfl rfl rfl ((q66f 19 4 (by unfold kWy; omega)).trans ((j37 19 4 (by unfold kNw; omega)).trans (Eq.trans (e_Has.eq hT rfl) (by omega)))) (by omega) ?_
                          refine e_Ok.run (t' := (162, [(0, (1, 0)), (2, (0, y2c))], [(0, y2c), (1, 22), (1, 10)], w64)) 1 rfl ?_
                          refine e_Ok.ald (z := w 22 y2c) rfl rfl rfl (by omega) ((q66f 22 y2c (by unfold kWy; omega)).trans ((j37 22 y2c (by unfold kNw; omega)).trans rfl)) (by omega) ?_
                          refine e_Ok.run (t' := (164, [(0, (1, 0)), (2, (0, y2c))], [(1, 0), (0, w 22 y2c), (1, 10)], w64)) 1 rfl ?_
                          refine e_Ok.getr (z := 19) rfl rfl rfl rfl ((q66f 0 4 (by unfold kWy; omega)).trans ((j37 0 4 (by unfold kNw; omega)).trans (Eq.trans (e_Has.eq hT rfl) (by omega)))) (by omega) ?_
                          refine e_Ok.run (t' := (168, [(0, (1, 0)), (2, (0, y2c))], [(0, y2c), (1, 19), (0, w 22 y2c), (1, 10)], w64)) 1 rfl ?_
                          refine e_Ok.callV rfl (by omega) rfl rfl rfl rfl (c_87 (by omega) q66T (by omega) Q68.fk (by omega)) (fun r71 w72 h73 => ?_)
                          obtain ⟨z75, rfl, rfl, q74r⟩ := h73
                          show e_Ok 20 elay kcode eI (d + 1) 259 (171, [(0, (1, 0)), (2, (0, y2c))], [(0, z75), (0, w 22 y2c), (1, 10)], w64) _
                          have hJ78 : ∀ m77 : Int, 0 ≤ m77 ∧ m77 ≤ 1 → e_Ok 20 elay kcode eI (d + 1) 259 (179, [(0, (1, 0)), (2, (0, y2c))], [(0, m77), (0, w 22 y2c), (1, 10)], w64) (fun r w' => r = [] ∧ e_Has kTy w' ∧ (e_fr kNw w w' ∧ w' 74 0 = w 74 0 + 1) ∧ ∃ h', h ≤ h' ∧ kI w' OP OD CL h' (-1) ∧ w 74 1 ≤ w' 74 1 ∧ w' 74 1 ≤ w 74 1 + 900) := by
                            intro m77 m77r
                            refine e_Ok.callV rfl (by omega) rfl rfl rfl rfl (c_113 (by omega) q66T (by omega) (by omega) Q68.pf) (fun r79 w80 h81 => ?_)
                            obtain ⟨z83, rfl, q82f, q82T, q82r, q82x⟩ := h81
                            have f84 : e_fr kNw w w80 := e_fr.trans f67 (e_fr.mono q82f (fun c k q => by exact nw_kPo q))
                            have Q85 := kI.po Q68 q82T (e_fr.mono q82f (fun c k g => ph_kPo g)) q82x
                            show e_Ok 20 elay kcode eI (d + 1) 259 (182, [(0, (1, 0)), (2, (0, y2c))], [(0, z83)], w80) _
                            refine e_Ok.run (t' := (183, [(0, (1, 0)), (2, (0, y2c))], [], w80)) 1 rfl ?_
                            refine e_Ok.inc (z := y2c + 1) rfl rfl (by omega) (by omega) ?_
                            show e_Ok 20 elay kcode eI (d + 1) 259 (186, [(2, (0, y2c + 1)), (0, (1, 0))], [], w80) _
                            refine e_Ok.run (t' := (119, [(2, (0, y2c + 1)), (0, (1, 0))], [], w80)) 1 rfl ?_
                            refine e_Ok.sub kAlk (e_sub_of rfl ?_) (ih36 (y2c + 1) w80 ⟨f84, q82T, ((q82f _ _ (by unfold kPo; omega)).trans tG), Q85, (by rw [q82f _ _ (by unfold kPo; omega)]; omega), by omega⟩ (by omega))
                            exact ⟨rfl, rfl, trivial⟩
                          refine e_Ok.if1 rfl (fun h76 => ?_) (fun h76 => ?_)
                          · exact e_Ok.run 1 rfl (hJ78 0 (by omega))
                          · exact e_Ok.run 2 rfl (hJ78 1 (by omega))
                  refine e_Ok.sub kAlk (e_sub_of rfl ?_) (hL35 (4 + 1 : Int).toNat 0 v2 ⟨j25, j26, j27, j28, (by omega), by omega⟩ (by omega))
                  exact ⟨rfl, rfl, trivial⟩
                · replace h34 : (v2 74 3 : Int) ≠ 0 := by have q : ¬ ((v2 74 3 : Int) = 0) := h34; omega
                  refine e_Ok.run (t' := (114, [(0, (1, 0)), (2, (0, y2b))], [(1, 0)], v2)) 1 rfl ?_
                  refine e_Ok.callV rfl (by omega) rfl rfl rfl rfl (c_262 (by omega) j26 j28 (by omega)) (fun r86 w87 h88 => ?_)
                  obtain ⟨rfl, q89T, q89f, q89x⟩ := h88
                  have f90 : e_fr kNw w w87 := e_fr.trans j25 (e_fr.mono q89f.1 (fun c k q => by exact q))
                  show e_Ok 20 elay kcode eI (d + 1) 259 (117, [(0, (1, 0)), (2, (0, y2b))], [], w87) _
                  refine e_Ok.run (t' := (119, [(2, (0, 0)), (0, (1, 0))], [], w87)) 2 rfl ?_
                  have hL91 : ∀ (nn : Nat) (y2c : Int) (v3 : eW), e_fr kNw w v3 ∧ e_Has kTy v3 ∧ v3 74 0 = w 74 0 + 1 ∧ kI v3 OP OD CL h1 (-1) ∧ ((w 74 1 ≤ v3 74 1 ∧ v3 74 1 ≤ w 74 1 + 398)) ∧ (0 ≤ y2c ∧ y2c ≤ 4) → 4 - y2c < nn → e_Ok 20 elay kcode eI (d + 1) 259 (119, [(0, (1, 0)), (2, (0, y2c))], [], v3) (fun r w' => r = [] ∧ e_Has kTy w' ∧ (e_fr kNw w w' ∧ w' 74 0 = w 74 0 + 1) ∧ ∃ h', h ≤ h' ∧ kI w' OP OD CL h' (-1) ∧ w 74 1 ≤ w' 74 1 ∧ w' 74 1 ≤ w 74 1 + 900) := by
                    intro nn
                    induction nn with
                    | zero => intro y2c v3 hj hm; obtain ⟨j93, j94, j95, j101, j103, j104⟩ := hj; exfalso; omega
                    | succ nn ih92 =>
                      intro y2c v3 hj hm
                      obtain ⟨j93, j94, j95, j101, j103, j104⟩ := hj
                      have b0 : v3 19 0 = w 19 0 := j93 _ _ (by unfold kNw; omega)
                      refine e_Ok.run (t' := (121, [(0, (1, 0)), (2, (0, y2c))], [(1, 0), (0, y2c)], v3)) 2 rfl ?_
                      refine e_Ok.getr (z := 19) rfl rfl rfl rfl ((j93 0 4 (by unfold kNw; omega)).trans (Eq.trans (e_Has.eq hT rfl) (by omega))) (by omega) ?_
                      have h105 := (e_Has.get hT (c := 19) (k := 0) (lo := 0) (hi := 4) rfl (by decide))
                      refine e_Ok.getf (z := w 19 0) rfl rfl rfl rfl ((j93 19 0 (by unfold kNw; omega)).trans rfl) (by omega) ?_
                      refine e_Ok.if2 rfl (fun h106 => ?_) (fun h106 => ?_)
                      · replace h106 : (y2c : Int) ≥ w 19 0 := h106
                        refine e_Ok.run (t' := (191, [(2, (0, 0)), (0, (1, 0))], [], v3)) 2 rfl ?_
                        have hL107 : ∀ (nn : Nat) (y2d : Int) (v4 : eW), e_fr kNw w v4 ∧ e_Has kTy v4 ∧ v4 74 0 = w 74 0 + 1 ∧ kI v4 OP OD CL h1 (-1) ∧ ((w 74 1 ≤ v4 74 1 ∧ v4 74 1 ≤ w 74 1 + 398)) ∧ (0 ≤ y2d ∧ y2d ≤ 4) → 4 - y2d < nn → e_Ok 20 elay kcode eI (d + 1) 259 (191, [(0, (1, 0)), (2, (0, y2d))], [], v4) (fun r w' => r = [] ∧ e_Has kTy w' ∧ (e_fr kNw w w' ∧ w' 74 0 = w 74 0 + 1) ∧ ∃ h', h ≤ h' ∧ kI w' OP OD CL h' (-1) ∧ w 74 1 ≤ w' 74 1 ∧ w' 74 1 ≤ w 74 1 + 900) := by
                          intro nn
                          induction nn with
                          | zero => intro y2d v4 hj hm; obtain ⟨j109, j110, j111, j112, j113, j114⟩ := hj; exfalso; omega
                          | succ nn ih108 =>
                            intro y2d v4 hj hm
                            obtain ⟨j109, j110, j111, j112, j113, j114⟩ := hj
                            refine e_Ok.run (t' := (193, [(0, (1, 0)), (2, (0, y2d))], [(1, 0), (0, y2d)], v4)) 2 rfl ?_
                            refine e_Ok.getf (z := w 0 11) rfl rfl rfl rfl ((j109 0 11 (by unfold kNw; omega)).trans rfl) (by omega) ?_
                            refine e_Ok.if2 rfl (fun h115 => ?_) (fun h115 => ?_)
                            · replace h115 : (y2d : Int) ≥ w 0 11 := h115
                              have hfk := j112.fk; have hbl := j112.bel
                              refine e_Ok.jp rfl ⟨rfl, j110, fun b g1 g2 => ⟨(hfk.1 b g1 g2).1, fun i g3 g4 => ?_⟩, fun p g1 g2 => ?_⟩ (fun w116 hw116 => ?_)
                              · have g5 := ((hfk.1 b g1 g2).2 i g3 g4).1; have g6 := e_Has.get j110 (c := 19) (k := 1) (lo := 0) (hi := 32) rfl (by decide); unfold kn1; omega
                              · have g5 := (hfk.2 p g1 g2).1; unfold kn1; omega
                              have fHv : e_fr kHv v4 w116 := by rw [← hw116]; exact e_hk_fr _
                              have QH := kI.hk j112 hw116
                              have f117 : e_fr kNw w w116 := e_fr.trans j109 (e_fr.mono fHv (fun c k q => by exact nw_kHv q))
                              refine e_Ok.rets rfl rfl ?_
                              exact ⟨rfl, QH.1, ⟨f117, (fHv _ _ (by unfold kHv; omega)).trans j111⟩, h1, j18, QH, by rw [fHv _ _ (by unfold kHv; omega)]; omega, by rw [fHv _ _ (by unfold kHv; omega)]; omega⟩
                            · replace h115 : (y2d : Int) < w 0 11 := by have q : ¬ ((y2d : Int) ≥ w 0 11) := h115; omega
                              refine e_Ok.run (t' := (200, [(0, (1, 0)), (2, (0, y2d))], [(1, 0)], v4)) 1 rfl ?_
                              refine e_Ok.getr (z := 9) rfl rfl rfl rfl ((j109 0 2 (by unfold kNw; omega)).trans (Eq.trans (e_Has.eq hT rfl) (by omega))) (by omega) ?_
                              refine e_Ok.run (t' := (204, [(0, (1, 0)), (2, (0, y2d))], [(0, y2d), (1, 9)], v4)) 1 rfl ?_
                              refine e_Ok.aald (z := 17 * y2d + 86) rfl rfl rfl (by omega) ((j109 9 y2d (by unfold kNw; omega)).trans (Eq.trans (e_Has.eq hT (k9 (by omega))) (by omega))) (by omega) ?_
                              refine e_Ok.callV rfl (by omega) rfl (lA0 (a := y2d) (by omega) (by omega)) rfl rfl (c_11 (a := y2d) j110 (by omega) (j112.arm (by omega) (by omega)).1) (fun r118 w119 h120 => ?_)
                              obtain ⟨rfl, q121f, q121T, q121x⟩ := h120
                              have f122 : e_fr kNw w w119 := e_fr.trans j109 (e_fr.mono q121f (fun c k q => by exact nw_kOl (by omega) q))
                              have Q123 := kI.old j112 q121T (a := y2d) (by omega) q121f q121x
                              show e_Ok 20 elay kcode eI (d + 1) 259 (208, [(0, (1, 0)), (2, (0, y2d))], [], w119) _
                              refine e_Ok.inc (z := y2d + 1) rfl rfl (by omega) (by omega) ?_
                              show e_Ok 20 elay kcode eI (d + 1) 259 (211, [(2, (0, y2d + 1)), (0, (1, 0))], [], w119) _
                              refine e_Ok.run (t' := (191, [(2, (0, y2d + 1)), (0, (1, 0))], [], w119)) 1 rfl ?_
                              refine e_Ok.sub kAlk (e_sub_of rfl ?_) (ih108 (y2d + 1) w119 ⟨f122, q121T, ((q121f _ _ (by unfold kOl; omega)).trans j111), Q123, (by rw [q121f _ _ (by unfold kOl; omega)]; omega), by omega⟩ (by omega))
                              exact ⟨rfl, rfl, trivial⟩
                        refine e_Ok.sub kAlk (e_sub_of rfl ?_) (hL107 (4 + 1 : Int).toNat 0 v3 ⟨j93, j94, j95, j101, by omega, by omega⟩ (by omega))
                        exact ⟨rfl, rfl, trivial⟩
                      · replace h106 : (y2c : Int) < w 19 0 := by have q : ¬ ((y2c : Int) ≥ w 19 0) := h106; omega
                        refine e_Ok.run (t' := (131, [(0, (1, 0)), (2, (0, y2c))], [(1, 0)], v3)) 1 rfl ?_
                        refine e_Ok.getr (z := 19) rfl rfl rfl rfl ((j93 0 4 (by unfold kNw; omega)).trans (Eq.trans (e_Has.eq hT rfl) (by omega))) (by omega) ?_
                        refine e_Ok.run (t' := (135, [(0, (1, 0)), (2, (0, y2c))], [(0, y2c), (1, 19)], v3)) 1 rfl ?_
                        refine e_Ok.callV rfl (by omega) rfl rfl rfl rfl (c_86 j94 (by omega) j101.fk (by omega)) (fun r124 w125 h126 => ?_)
                        obtain ⟨rfl, q127f, q127T, q127x⟩ := h126
                        have f128 : e_fr kNw w w125 := e_fr.trans j93 (e_fr.mono q127f (fun c k q => by exact nw_kWy q))
                        have Q129 := kI.wy j101 q127T q127f q127x
                        have tG : w125 74 0 = w 74 0 + 1 := (q127f _ _ (by unfold kWy; omega)).trans j95
                        have vG : w125 74 1 = v3 74 1 := q127f _ _ (by unfold kWy; omega)
                        have bG : w125 19 0 = v3 19 0 := q127f _ _ (by unfold kWy; omega)
                        show e_Ok 20 elay kcode eI (d + 1) 259 (138, [(0, (1, 0)), (2, (0, y2c))], [], w125) _
                        refine e_Ok.run (t' := (139, [(0, (1, 0)), (2, (0, y2c))], [(1, 0)], w125)) 1 rfl ?_
                        refine e_Ok.getr (z := 19) rfl rfl rfl rfl ((q127f 0 4 (by unfold kWy; omega)).trans ((j93 0 4 (by unfold kNw; omega)).trans (Eq.trans (e_Has.eq hT rfl) (by omega)))) (by omega) ?_
                        refine e_Ok.getr (z := 22) rfl rfl rfl rfl ((q127f 19 4 (by unfold kWy; omega)).trans ((j93 19 4 (by unfold kNw; omega)).trans (Eq.trans (e_Has.eq hT rfl) (by omega)))) (by omega) ?_
                        refine e_Ok.run (t' := (146, [(0, (1, 0)), (2, (0, y2c))], [(0, y2c), (1, 22)], w125)) 1 rfl ?_
                        have h130 := (e_Has.get hT (c := 22) (k := y2c) (lo := (-1)) (hi := 63) rfl (by decide))
                        refine e_Ok.ald (z := w 22 y2c) rfl rfl rfl (by omega) ((q127f 22 y2c (by unfold kWy; omega)).trans ((j93 22 y2c (by unfold kNw; omega)).trans rfl)) (by omega) ?_
                        refine e_Ok.if1 rfl (fun h131 => ?_) (fun h131 => ?_)
                        · replace h131 : (w 22 y2c : Int) < 0 := h131
                          refine e_Ok.inc (z := y2c + 1) rfl rfl (by omega) (by omega) ?_
                          show e_Ok 20 elay kcode eI (d + 1) 259 (186, [(2, (0, y2c + 1)), (0, (1, 0))], [], w125) _
                          refine e_Ok.run (t' := (119, [(2, (0, y2c + 1)), (0, (1, 0))], [], w125)) 1 rfl ?_
                          refine e_Ok.sub kAlk (e_sub_of rfl ?_) (ih92 (y2c + 1) w125 ⟨f128, q127T, tG, Q129, (by omega), by omega⟩ (by omega))
                          exact ⟨rfl, rfl, trivial⟩
                        · replace h131 : (w 22 y2c : Int) ≥ 0 := by have q : ¬ ((w 22 y2c : Int) < 0) := h131; omega
                          refine e_Ok.run (t' := (151, [(0, (1, 0)), (2, (0, y2c))], [(1, 0)], w125)) 1 rfl ?_
                          refine e_Ok.getr (z := 10) rfl rfl rfl rfl ((q127f 0 3 (by unfold kWy; omega)).trans ((j93 0 3 (by unfold kNw; omega)).trans (Eq.trans (e_Has.eq hT rfl) (by omega)))) (by omega) ?_
                          refine e_Ok.run (t' := (155, [(0, (1, 0)), (2, (0, y2c))], [(1, 0), (1, 10)], w125)) 1 rfl ?_
                          refine e_Ok.getr (z := 19) rfl rfl rfl rfl ((q127f 0 4 (by unfold kWy; omega)).trans ((j93 0 4 (by unfold kNw; omega)).trans (Eq.trans (e_Has.eq hT rfl) (by omega)))) (by omega) ?_
                          refine e_Ok.getr (z := 22) rfl rfl rfl rfl ((q127f 19 4 (by unfold kWy; omega)).trans ((j93 19 4 (by unfold kNw; omega)).trans (Eq.trans (e_Has.eq hT rfl) (by omega)))) (by omega) ?_
                          refine e_Ok.run (t' := (162, [(0, (1, 0)), (2, (0, y2c))], [(0, y2c), (1, 22), (1, 10)], w125)) 1 rfl ?_
                          refine e_Ok.ald (z := w 22 y2c) rfl rfl rfl (by omega) ((q127f 22 y2c (by unfold kWy; omega)).trans ((j93 22 y2c (by unfold kNw; omega)).trans rfl)) (by omega) ?_
                          refine e_Ok.run (t' := (164, [(0, (1, 0)), (2, (0, y2c))], [(1, 0), (0, w 22 y2c), (1, 10)], w125)) 1 rfl ?_
                          refine e_Ok.getr (z := 19) rfl rfl rfl rfl ((q127f 0 4 (by unfold kWy; omega)).trans ((j93 0 4 (by unfold kNw; omega)).trans (Eq.trans (e_Has.eq hT rfl) (by omega)))) (by omega) ?_
                          refine e_Ok.run (t' := (168, [(0, (1, 0)), (2, (0, y2c))], [(0, y2c), (1, 19), (0, w 22 y2c), (1, 10)], w125)) 1 rfl ?_
                          refine e_Ok.callV rfl (by omega) rfl rfl rfl rfl (c_87 (by omega) q127T (by omega) Q129.fk (by omega)) (fun r132 w133 h134 => ?_)
                          obtain ⟨z136, rfl, rfl, q135r⟩ := h134
                          show e_Ok 20 elay kcode eI (d + 1) 259 (171, [(0, (1, 0)), (2, (0, y2c))], [(0, z136), (0, w 22 y2c), (1, 10)], w125) _
                          have hJ139 : ∀ m138 : Int, 0 ≤ m138 ∧ m138 ≤ 1 → e_Ok 20 elay kcode eI (d + 1) 259 (179, [(0, (1, 0)), (2, (0, y2c))], [(0, m138), (0, w 22 y2c), (1, 10)], w125) (fun r w' => r = [] ∧ e_Has kTy w' ∧ (e_fr kNw w w' ∧ w' 74 0 = w 74 0 + 1) ∧ ∃ h', h ≤ h' ∧ kI w' OP OD CL h' (-1) ∧ w 74 1 ≤ w' 74 1 ∧ w' 74 1 ≤ w 74 1 + 900) := by
                            intro m138 m138r
                            refine e_Ok.callV rfl (by omega) rfl rfl rfl rfl (c_113 (by omega) q127T (by omega) (by omega) Q129.pf) (fun r140 w141 h142 => ?_)
                            obtain ⟨z144, rfl, q143f, q143T, q143r, q143x⟩ := h142
                            have f145 : e_fr kNw w w141 := e_fr.trans f128 (e_fr.mono q143f (fun c k q => by exact nw_kPo q))
                            have Q146 := kI.po Q129 q143T (e_fr.mono q143f (fun c k g => ph_kPo g)) q143x
                            show e_Ok 20 elay kcode eI (d + 1) 259 (182, [(0, (1, 0)), (2, (0, y2c))], [(0, z144)], w141) _
                            refine e_Ok.run (t' := (183, [(0, (1, 0)), (2, (0, y2c))], [], w141)) 1 rfl ?_
                            refine e_Ok.inc (z := y2c + 1) rfl rfl (by omega) (by omega) ?_
                            show e_Ok 20 elay kcode eI (d + 1) 259 (186, [(2, (0, y2c + 1)), (0, (1, 0))], [], w141) _
                            refine e_Ok.run (t' := (119, [(2, (0, y2c + 1)), (0, (1, 0))], [], w141)) 1 rfl ?_
                            refine e_Ok.sub kAlk (e_sub_of rfl ?_) (ih92 (y2c + 1) w141 ⟨f145, q143T, ((q143f _ _ (by unfold kPo; omega)).trans tG), Q146, (by rw [q143f _ _ (by unfold kPo; omega)]; omega), by omega⟩ (by omega))
                            exact ⟨rfl, rfl, trivial⟩
                          refine e_Ok.if1 rfl (fun h137 => ?_) (fun h137 => ?_)
                          · exact e_Ok.run 1 rfl (hJ139 0 (by omega))
                          · exact e_Ok.run 2 rfl (hJ139 1 (by omega))
                  refine e_Ok.sub kAlk (e_sub_of rfl ?_) (hL91 (4 + 1 : Int).toNat 0 w87 ⟨f90, q89T, (q89f.2.trans j27), q89x.1, (by have g := q89x.2; omega), by omega⟩ (by omega))
                  exact ⟨rfl, rfl, trivial⟩
              · replace h32 : (y2b : Int) < w 0 11 := by have q : ¬ ((y2b : Int) ≥ w 0 11) := h32; omega
                refine e_Ok.run (t' := (94, [(0, (1, 0)), (2, (0, y2b))], [(0, y2b), (1, 0)], v2)) 2 rfl ?_
                refine e_Ok.callV rfl (by omega) rfl rfl rfl rfl (c_260 (by omega) (a := y2b) j26 (by omega) j28 (by omega)) (fun r147 w148 h149 => ?_)
                obtain ⟨rfl, q150T, q150f, q150x⟩ := h149
                have f151 : e_fr kNw w w148 := e_fr.trans j25 (e_fr.mono q150f.1 (fun c k q => by exact q))
                show e_Ok 20 elay kcode eI (d + 1) 259 (97, [(0, (1, 0)), (2, (0, y2b))], [], w148) _
                refine e_Ok.inc (z := y2b + 1) rfl rfl (by omega) (by omega) ?_
                show e_Ok 20 elay kcode eI (d + 1) 259 (100, [(2, (0, y2b + 1)), (0, (1, 0))], [], w148) _
                refine e_Ok.run (t' := (84, [(2, (0, y2b + 1)), (0, (1, 0))], [], w148)) 1 rfl ?_
                refine e_Ok.sub kAlk (e_sub_of rfl ?_) (ih24 (y2b + 1) w148 ⟨f151, q150T, (q150f.2.trans j27), q150x.1, (by have g := q150x.2; omega), by omega⟩ (by omega))
                exact ⟨rfl, rfl, trivial⟩
          refine e_Ok.sub kAlk (e_sub_of rfl ?_) (hL23 (4 + 1 : Int).toNat 0 v1 ⟨j15, j16, j17, j19, by omega, by omega⟩ (by omega))
          exact ⟨rfl, rfl, trivial⟩
        · replace h22 : (y2 : Int) < 16 := by have q : ¬ ((y2 : Int) ≥ 16) := h22; omega
          refine e_Ok.run (t' := (50, [(0, (1, 0)), (2, (0, y2))], [(1, 0)], v1)) 1 rfl ?_
          refine e_Ok.getr (z := 8) rfl rfl rfl rfl ((j15 0 1 (by unfold kNw; omega)).trans (Eq.trans (e_Has.eq hT rfl) (by omega))) (by omega) ?_
          refine e_Ok.run (t' := (54, [(0, (1, 0)), (2, (0, y2))], [(0, y2), (1, 8)], v1)) 1 rfl ?_
          refine e_Ok.callV rfl (by omega) rfl rfl rfl rfl (c_42 (by omega) j16 (by omega) j19) (fun r152 w153 h154 => ?_)
          obtain ⟨z155, rfl, rfl, q156r, q156x⟩ := h154
          show e_Ok 20 elay kcode eI (d + 1) 259 (57, [(0, (1, 0)), (2, (0, y2))], [(0, z155)], v1) _
          refine e_Ok.if1 rfl (fun h157 => ?_) (fun h157 => ?_)
          · replace h157 : (z155 : Int) = 0 := h157
            refine e_Ok.inc (z := y2 + 1) rfl rfl (by omega) (by omega) ?_
            show e_Ok 20 elay kcode eI (d + 1) 259 (79, [(2, (0, y2 + 1)), (0, (1, 0))], [], v1) _
            refine e_Ok.run (t' := (43, [(2, (0, y2 + 1)), (0, (1, 0))], [], v1)) 1 rfl ?_
            refine e_Ok.sub kAlk (e_sub_of rfl ?_) (ih14 (y2 + 1) v1 h1 ⟨j15, j16, j17, j18, j19, (by omega), by omega⟩ (by omega))
            exact ⟨rfl, rfl, trivial⟩
          · replace h157 : (z155 : Int) ≠ 0 := by have q : ¬ ((z155 : Int) = 0) := h157; omega
            refine e_Ok.run (t' := (61, [(0, (1, 0)), (2, (0, y2))], [(1, 0)], v1)) 1 rfl ?_
            refine e_Ok.getr (z := 8) rfl rfl rfl rfl ((j15 0 1 (by unfold kNw; omega)).trans (Eq.trans (e_Has.eq hT rfl) (by omega))) (by omega) ?_
            refine e_Ok.run (t' := (65, [(0, (1, 0)), (2, (0, y2))], [(1, 0), (1, 8)], v1)) 1 rfl ?_
            refine e_Ok.getr (z := 8) rfl rfl rfl rfl ((j15 0 1 (by unfold kNw; omega)).trans (Eq.trans (e_Has.eq hT rfl) (by omega))) (by omega) ?_
            refine e_Ok.getr (z := 82) rfl rfl rfl rfl ((j15 8 4 (by unfold kNw; omega)).trans (Eq.trans (e_Has.eq hT rfl) (by omega))) (by omega) ?_
            refine e_Ok.run (t' := (72, [(0, (1, 0)), (2, (0, y2))], [(0, y2), (1, 82), (1, 8)], v1)) 1 rfl ?_
            refine e_Ok.aald (z := 6 * y2 + 154) rfl rfl rfl (by omega) ((j15 82 y2 (by unfold kNw; omega)).trans (Eq.trans (e_Has.eq hT (k82 (by omega))) (by omega))) (by omega) ?_
            have hact := q156x (by omega)
            have tq := j19.ts (t := y2) (by omega) (by omega)
            have ta := tq.1.1 (by omega) (by omega)
            have tb := e_Has.get j16 (c := 6 * y2 + 154) (k := 2) (lo := -1) (hi := 3) (kT_2 (t := y2) rfl (by omega)) (by decide)
            refine e_Ok.callV rfl (by omega) rfl rfl rfl rfl (c_43 (by omega) j16 (by omega) (kI.weak j19 (by decide)) (a := v1 (6 * y2 + 154) 2) (by omega) rfl rfl (by omega) hact ((tq.2 hact.1 hact.2).2 (by omega)) (by omega)) (fun r158 w159 h160 => ?_)
            obtain ⟨rfl, q161T, q161f, q161h, q161x⟩ := h160
            have f162 : e_fr kNw w w159 := e_fr.trans j15 (e_fr.mono q161f.1 (fun c k q => by exact q))
            show e_Ok 20 elay kcode eI (d + 1) 259 (76, [(0, (1, 0)), (2, (0, y2))], [], w159) _
            refine e_Ok.inc (z := y2 + 1) rfl rfl (by omega) (by omega) ?_
            show e_Ok 20 elay kcode eI (d + 1) 259 (79, [(2, (0, y2 + 1)), (0, (1, 0))], [], w159) _
            refine e_Ok.run (t' := (43, [(2, (0, y2 + 1)), (0, (1, 0))], [], w159)) 1 rfl ?_
            refine e_Ok.sub kAlk (e_sub_of rfl ?_) (ih14 (y2 + 1) w159 q161h ⟨f162, q161T, (q161f.2.trans j17), (Int.le_trans j18 q161x.1), q161x.2.1, (by have g := q161x.2.2; omega), by omega⟩ (by omega))
            exact ⟨rfl, rfl, trivial⟩
    refine e_Ok.sub kAlk (e_sub_of rfl ?_) (hL13 (16 + 1 : Int).toNat 0 w5 h ⟨f9, q8T, tB, Int.le_refl h, Q10, (by omega), by omega⟩ (by omega))
    exact ⟨rfl, rfl, trivial⟩
  · replace h12 : (w 74 3 : Int) ≠ 0 := by have q : ¬ ((w 74 3 : Int) = 0) := h12; omega
    refine e_Ok.run (t' := (32, [(1, (0, z7)), (0, (1, 0))], [(0, z7)], w5)) 1 rfl ?_
    refine e_Ok.if1 rfl (fun h163 => ?_) (fun h163 => ?_)
    · replace h163 : (z7 : Int) < 0 := h163
      refine e_Ok.run (t' := (43, [(2, (0, 0)), (1, (0, z7)), (0, (1, 0))], [], w5)) 2 rfl ?_
      have hL164 : ∀ (nn : Nat) (y2 : Int) (v1 : eW) (h1 : Int), e_fr kNw w v1 ∧ e_Has kTy v1 ∧ v1 74 0 = w 74 0 + 1 ∧ h ≤ h1 ∧ kI v1 OP OD CL h1 (-1) ∧ ((w 74 1 ≤ v1 74 1 ∧ v1 74 1 ≤ w 74 1 + 5 + 24 * y2)) ∧ (0 ≤ y2 ∧ y2 ≤ 16) → 16 - y2 < nn → e_Ok 20 elay kcode eI (d + 1) 259 (43, [(0, (1, 0)), (2, (0, y2))], [], v1) (fun r w' => r = [] ∧ e_Has kTy w' ∧ (e_fr kNw w w' ∧ w' 74 0 = w 74 0 + 1) ∧ ∃ h', h ≤ h' ∧ kI w' OP OD CL h' (-1) ∧ w 74 1 ≤ w' 74 1 ∧ w' 74 1 ≤ w 74 1 + 900) := by
        intro nn
        induction nn with
        | zero => intro y2 v1 h1 hj hm; obtain ⟨j166, j167, j168, j169, j170, j171, j172⟩ := hj; exfalso; omega
        | succ nn ih165 =>
          intro y2 v1 h1 hj hm
          obtain ⟨j166, j167, j168, j169, j170, j171, j172⟩ := hj
          refine e_Ok.run (t' := (46, [(0, (1, 0)), (2, (0, y2))], [(0, 16), (0, y2)], v1)) 2 rfl ?_
          refine e_Ok.if2 rfl (fun h173 => ?_) (fun h173 => ?_)
          · replace h173 : (y2 : Int) ≥ 16 := h173
            refine e_Ok.run (t' := (84, [(2, (0, 0)), (0, (1, 0))], [], v1)) 2 rfl ?_
            have hL174 : ∀ (nn : Nat) (y2b : Int) (v2 : eW), e_fr kNw w v2 ∧ e_Has kTy v2 ∧ v2 74 0 = w 74 0 + 1 ∧ kI v2 OP OD CL h1 (-1) ∧ ((w 74 1 ≤ v2 74 1 ∧ v2 74 1 ≤ w 74 1 + 389 + y2b)) ∧ (0 ≤ y2b ∧ y2b ≤ 4) → 4 - y2b < nn → e_Ok 20 elay kcode eI (d + 1) 259 (84, [(0, (1, 0)), (2, (0, y2b))], [], v2) (fun r w' => r = [] ∧ e_Has kTy w' ∧ (e_fr kNw w w' ∧ w' 74 0 = w 74 0 + 1) ∧ ∃ h', h ≤ h' ∧ kI w' OP OD CL h' (-1) ∧ w 74 1 ≤ w' 74 1 ∧ w' 74 1 ≤ w 74 1 + 900) := by
              intro nn
              induction nn with
              | zero => intro y2b v2 hj hm; obtain ⟨j176, j177, j178, j179, j180, j181⟩ := hj; exfalso; omega
              | succ nn ih175 =>
                intro y2b v2 hj hm
                obtain ⟨j176, j177, j178, j179, j180, j181⟩ := hj
                refine e_Ok.run (t' := (86, [(0, (1, 0)), (2, (0, y2b))], [(1, 0), (0, y2b)], v2)) 2 rfl ?_
                have h182 := (e_Has.get hT (c := 0) (k := 11) (lo := 0) (hi := 4) rfl (by decide))
                refine e_Ok.getf (z := w 0 11) rfl rfl rfl rfl ((j176 0 11 (by unfold kNw; omega)).trans rfl) (by omega) ?_
                refine e_Ok.if2 rfl (fun h183 => ?_) (fun h183 => ?_)
                · replace h183 : (y2b : Int) ≥ w 0 11 := h183
                  refine e_Ok.run (t' := (104, [(0, (1, 0)), (2, (0, y2b))], [(1, 0)], v2)) 1 rfl ?_
                  refine e_Ok.getr (z := 74) rfl rfl rfl rfl ((j176 0 5 (by unfold kNw; omega)).trans (Eq.trans (e_Has.eq hT rfl) (by omega))) (by omega) ?_
                  have h184 := (e_Has.get j177 (c := 74) (k := 3) (lo := 0) (hi := 1) rfl (by decide))
                  refine e_Ok.getf (z := v2 74 3) rfl rfl rfl rfl rfl (by omega) ?_
                  refine e_Ok.if1 rfl (fun h185 => ?_) (fun h185 => ?_)
                  · replace h185 : (v2 74 3 : Int) = 0 := h185
                    refine e_Ok.run (t' := (119, [(2, (0, 0)), (0, (1, 0))], [], v2)) 2 rfl ?_
                    have hL186 : ∀ (nn : Nat) (y2c : Int) (v3 : eW), e_fr kNw w v3 ∧ e_Has kTy v3 ∧ v3 74 0 = w 74 0 + 1 ∧ kI v3 OP OD CL h1 (-1) ∧ ((w 74 1 ≤ v3 74 1 ∧ v3 74 1 ≤ w 74 1 + 398)) ∧ (0 ≤ y2c ∧ y2c ≤ 4) → 4 - y2c < nn → e_Ok 20 elay kcode eI (d + 1) 259 (119, [(0, (1, 0)), (2, (0, y2c))], [], v3) (fun r w' => r = [] ∧ e_Has kTy w' ∧ (e_fr kNw w w' ∧ w' 74 0 = w 74 0 + 1) ∧ ∃ h', h ≤ h' ∧ kI w' OP OD CL h' (-1) ∧ w 74 1 ≤ w' 74 1 ∧ w' 74 1 ≤ w 74 1 + 900) := by
                      intro nn
                      induction nn with
                      | zero => intro y2c v3 hj hm; obtain ⟨j188, j189, j190, j191, j192, j193⟩ := hj; exfalso; omega
                      | succ nn ih187 =>
                        intro y2c v3 hj hm
                        obtain ⟨j188, j189, j190, j191, j192, j193⟩ := hj
                        have b0 : v3 19 0 = w 19 0 := j188 _ _ (by unfold kNw; omega)
                        refine e_Ok.run (t' := (121, [(0, (1, 0)), (2, (0, y2c))], [(1, 0), (0, y2c)], v3)) 2 rfl ?_
                        refine e_Ok.getr (z := 19) rfl rfl rfl rfl ((j188 0 4 (by unfold kNw; omega)).trans (Eq.trans (e_Has.eq hT rfl) (by omega))) (by omega) ?_
                        have h194 := (e_Has.get hT (c := 19) (k := 0) (lo := 0) (hi := 4) rfl (by decide))
                        refine e_Ok.getf (z := w 19 0) rfl rfl rfl rfl ((j188 19 0 (by unfold kNw; omega)).trans rfl) (by omega) ?_
                        refine e_Ok.if2 rfl (fun h195 => ?_) (fun h195 => ?_)
                        · replace h195 : (y2c : Int) ≥ w 19 0 := h195
                          refine e_Ok.run (t' := (191, [(2, (0, 0)), (0, (1, 0))], [], v3)) 2 rfl ?_
                          have hL196 : ∀ (nn : Nat) (y2d : Int) (v4 : eW), e_fr kNw w v4 ∧ e_Has kTy v4 ∧ v4 74 0 = w 74 0 + 1 ∧ kI v4 OP OD CL h1 (-1) ∧ ((w 74 1 ≤ v4 74 1 ∧ v4 74 1 ≤ w 74 1 + 398)) ∧ (0 ≤ y2d ∧ y2d ≤ 4) → 4 - y2d < nn → e_Ok 20 elay kcode eI (d + 1) 259 (191, [(0, (1, 0)), (2, (0, y2d))], [], v4) (fun r w' => r = [] ∧ e_Has kTy w' ∧ (e_fr kNw w w' ∧ w' 74 0 = w 74 0 + 1) ∧ ∃ h', h ≤ h' ∧ kI w' OP OD CL h' (-1) ∧ w 74 1 ≤ w' 74 1 ∧ w' 74 1 ≤ w 74 1 + 900) := by
                            intro nn
                            induction nn with
                            | zero => intro y2d v4 hj hm; obtain ⟨j198, j199, j200, j201, j202, j203⟩ := hj; exfalso; omega
                            | succ nn ih197 =>
                              intro y2d v4 hj hm
                              obtain ⟨j198, j199, j200, j201, j202, j203⟩ := hj
                              refine e_Ok.run (t' := (193, [(0, (1, 0)), (2, (0, y2d))], [(1, 0), (0, y2d)], v4)) 2 rfl ?_
                              refine e_Ok.getf (z := w 0 11) rfl rfl rfl rfl ((j198 0 11 (by unfold kNw; omega)).trans rfl) (by omega) ?_
                              refine e_Ok.if2 rfl (fun h204 => ?_) (fun h204 => ?_)
                              · replace h204 : (y2d : Int) ≥ w 0 11 := h204
                                have hfk := j201.fk; have hbl := j201.bel
                                refine e_Ok.jp rfl ⟨rfl, j199, fun b g1 g2 => ⟨(hfk.1 b g1 g2).1, fun i g3 g4 => ?_⟩, fun p g1 g2 => ?_⟩ (fun w205 hw205 => ?_)
                                · have g5 := ((hfk.1 b g1 g2).2 i g3 g4).1; have g6 := e_Has.get j199 (c := 19) (k := 1) (lo := 0) (hi := 32) rfl (by decide); unfold kn1; omega
                                · have g5 := (hfk.2 p g1 g2).1; unfold kn1; omega
                                have fHv : e_fr kHv v4 w205 := by rw [← hw205]; exact e_hk_fr _
                                have QH := kI.hk j201 hw205
                                have f206 : e_fr kNw w w205 := e_fr.trans j198 (e_fr.mono fHv (fun c k q => by exact nw_kHv q))
                                refine e_Ok.rets rfl rfl ?_
                                exact ⟨rfl, QH.1, ⟨f206, (fHv _ _ (by unfold kHv; omega)).trans j200⟩, h1, j169, QH, by rw [fHv _ _ (by unfold kHv; omega)]; omega, by rw [fHv _ _ (by unfold kHv; omega)]; omega⟩
                              · replace h204 : (y2d : Int) < w 0 11 := by have q : ¬ ((y2d : Int) ≥ w 0 11) := h204; omega
                                refine e_Ok.run (t' := (200, [(0, (1, 0)), (2, (0, y2d))], [(1, 0)], v4)) 1 rfl ?_
                                refine e_Ok.getr (z := 9) rfl rfl rfl rfl ((j198 0 2 (by unfold kNw; omega)).trans (Eq.trans (e_Has.eq hT rfl) (by omega))) (by omega) ?_
                                refine e_Ok.run (t' := (204, [(0, (1, 0)), (2, (0, y2d))], [(0, y2d), (1, 9)], v4)) 1 rfl ?_
                                refine e_Ok.aald (z := 17 * y2d + 86) rfl rfl rfl (by omega) ((j198 9 y2d (by unfold kNw; omega)).trans (Eq.trans (e_Has.eq hT (k9 (by omega))) (by omega))) (by omega) ?_
                                refine e_Ok.callV rfl (by omega) rfl (lA0 (a := y2d) (by omega) (by omega)) rfl rfl (c_11 (a := y2d) j199 (by omega) (j201.arm (by omega) (by omega)).1) (fun r207 w208 h209 => ?_)
                                obtain ⟨rfl, q210f, q210T, q210x⟩ := h209
                                have f211 : e_fr kNw w w208 := e_fr.trans j198 (e_fr.mono q210f (fun c k q => by exact nw_kOl (by omega) q))
                                have Q212 := kI.old j201 q210T (a := y2d) (by omega) q210f q210x
                                show e_Ok 20 elay kcode eI (d + 1) 259 (208, [(0, (1, 0)), (2, (0, y2d))], [], w208) _
                                refine e_Ok.inc (z := y2d + 1) rfl rfl (by omega) (by omega) ?_
                                show e_Ok 20 elay kcode eI (d + 1) 259 (211, [(2, (0, y2d + 1)), (0, (1, 0))], [], w208) _
                                refine e_Ok.run (t' := (191, [(2, (0, y2d + 1)), (0, (1, 0))], [], w208)) 1 rfl ?_
                                refine e_Ok.sub kAlk (e_sub_of rfl ?_) (ih197 (y2d + 1) w208 ⟨f211, q210T, ((q210f _ _ (by unfold kOl; omega)).trans j200), Q212, (by rw [q210f _ _ (by unfold kOl; omega)]; omega), by omega⟩ (by omega))
                                exact ⟨rfl, rfl, trivial⟩
                          refine e_Ok.sub kAlk (e_sub_of rfl ?_) (hL196 (4 + 1 : Int).toNat 0 v3 ⟨j188, j189, j190, j191, by omega, by omega⟩ (by omega))
                          exact ⟨rfl, rfl, trivial⟩
                        · replace h195 : (y2c : Int) < w 19 0 := by have q : ¬ ((y2c : Int) ≥ w 19 0) := h195; omega
                          refine e_Ok.run (t' := (131, [(0, (1, 0)), (2, (0, y2c))], [(1, 0)], v3)) 1 rfl ?_
                          refine e_Ok.getr (z := 19) rfl rfl rfl rfl ((j188 0 4 (by unfold kNw; omega)).trans (Eq.trans (e_Has.eq hT rfl) (by omega))) (by omega) ?_
                          refine e_Ok.run (t' := (135, [(0, (1, 0)), (2, (0, y2c))], [(0, y2c), (1, 19)], v3)) 1 rfl ?_
                          refine e_Ok.callV rfl (by omega) rfl rfl rfl rfl (c_86 j189 (by omega) j191.fk (by omega)) (fun r213 w214 h215 => ?_)
                          obtain ⟨rfl, q216f, q216T, q216x⟩ := h215
                          have f217 : e_fr kNw w w214 := e_fr.trans j188 (e_fr.mono q216f (fun c k q => by exact nw_kWy q))
                          have Q218 := kI.wy j191 q216T q216f q216x
                          have tG : w214 74 0 = w 74 0 + 1 := (q216f _ _ (by unfold kWy; omega)).trans j190
                          have vG : w214 74 1 = v3 74 1 := q216f _ _ (by unfold kWy; omega)
                          have bG : w214 19 0 = v3 19 0 := q216f _ _ (by unfold kWy; omega)
                          show e_Ok 20 elay kcode eI (d + 1) 259 (138, [(0, (1, 0)), (2, (0, y2c))], [], w214) _
                          refine e_Ok.run (t' := (139, [(0, (1, 0)), (2, (0, y2c))], [(1, 0)], w214)) 1 rfl ?_
                          refine e_Ok.getr (z := 19) rfl rfl rfl rfl ((q216f 0 4 (by unfold kWy; omega)).trans ((j188 0 4 (by unfold kNw; omega)).trans (Eq.trans (e_Has.eq hT rfl) (by omega)))) (by omega) ?_
                          refine e_Ok.getr (z := 22) rfl rfl rfl rfl ((q216f 19 4 (by unfold kWy; omega)).trans ((j188 19 4 (by unfold kNw; omega)).trans (Eq.trans (e_Has.eq hT rfl) (by omega)))) (by omega) ?_
                          refine e_Ok.run (t' := (146, [(0, (1, 0)), (2, (0, y2c))], [(0, y2c), (1, 22)], w214)) 1 rfl ?_
                          have h219 := (e_Has.get hT (c := 22) (k := y2c) (lo := (-1)) (hi := 63) rfl (by decide))
                          refine e_Ok.ald (z := w 22 y2c) rfl rfl rfl (by omega) ((q216f 22 y2c (by unfold kWy; omega)).trans ((j188 22 y2c (by unfold kNw; omega)).trans rfl)) (by omega) ?_
                          refine e_Ok.if1 rfl (fun h220 => ?_) (fun h220 => ?_)
                          · replace h220 : (w 22 y2c : Int) < 0 := h220
                            refine e_Ok.inc (z := y2c + 1) rfl rfl (by omega) (by omega) ?_
                            show e_Ok 20 elay kcode eI (d + 1) 259 (186, [(2, (0, y2c + 1)), (0, (1, 0))], [], w214) _
                            refine e_Ok.run (t' := (119, [(2, (0, y2c + 1)), (0, (1, 0))], [], w214)) 1 rfl ?_
                            refine e_Ok.sub kAlk (e_sub_of rfl ?_) (ih187 (y2c + 1) w214 ⟨f217, q216T, tG, Q218, (by omega), by omega⟩ (by omega))
                            exact ⟨rfl, rfl, trivial⟩
                          · replace h220 : (w 22 y2c : Int) ≥ 0 := by have q : ¬ ((w 22 y2c : Int) < 0) := h220; omega
                            refine e_Ok.run (t' := (151, [(0, (1, 0)), (2, (0, y2c))], [(1, 0)], w214)) 1 rfl ?_
                            refine e_Ok.getr (z := 10) rfl rfl rfl rfl ((q216f 0 3 (by unfold kWy; omega)).trans ((j188 0 3 (by unfold kNw; omega)).trans (Eq.trans (e_Has.eq hT rfl) (by omega)))) (by omega) ?_
                            refine e_Ok.run (t' := (155, [(0, (1, 0)), (2, (0, y2c))], [(1, 0), (1, 10)], w214)) 1 rfl ?_
                            refine e_Ok.getr (z := 19) rfl rfl rfl rfl ((q216f 0 4 (by unfold kWy; omega)).trans ((j188 0 4 (by unfold kNw; omega)).trans (Eq.trans (e_Has.eq hT rfl) (by omega)))) (by omega) ?_
                            refine e_Ok.getr (z := 22) rfl rfl rfl rfl ((q216f 19 4 (by unfold kWy; omega)).trans ((j188 19 4 (by unfold kNw; omega)).trans (Eq.trans (e_Has.eq hT rfl) (by omega)))) (by omega) ?_
                            refine e_Ok.run (t' := (162, [(0, (1, 0)), (2, (0, y2c))], [(0, y2c), (1, 22), (1, 10)], w214)) 1 rfl ?_
                            refine e_Ok.ald (z := w 22 y2c) rfl rfl rfl (by omega) ((q216f 22 y2c (by unfold kWy; omega)).trans ((j188 22 y2c (by unfold kNw; omega)).trans rfl)) (by omega) ?_
                            refine e_Ok.run (t' := (164, [(0, (1, 0)), (2, (0, y2c))], [(1, 0), (0, w 22 y2c), (1, 10)], w214)) 1 rfl ?_
                            refine e_Ok.getr (z := 19) rfl rfl rfl rfl ((q216f 0 4 (by unfold kWy; omega)).trans ((j188 0 4 (by unfold kNw; omega)).trans (Eq.trans (e_Has.eq hT rfl) (by omega)))) (by omega) ?_
                            refine e_Ok.run (t' := (168, [(0, (1, 0)), (2, (0, y2c))], [(0, y2c), (1, 19), (0, w 22 y2c), (1, 10)], w214)) 1 rfl ?_
                            refine e_Ok.callV rfl (by omega) rfl rfl rfl rfl (c_87 (by omega) q216T (by omega) Q218.fk (by omega)) (fun r221 w222 h223 => ?_)
                            obtain ⟨z225, rfl, rfl, q224r⟩ := h223
                            show e_Ok 20 elay kcode eI (d + 1) 259 (171, [(0, (1, 0)), (2, (0, y2c))], [(0, z225), (0, w 22 y2c), (1, 10)], w214) _
                            have hJ228 : ∀ m227 : Int, 0 ≤ m227 ∧ m227 ≤ 1 → e_Ok 20 elay kcode eI (d + 1) 259 (179, [(0, (1, 0)), (2, (0, y2c))], [(0, m227), (0, w 22 y2c), (1, 10)], w214) (fun r w' => r = [] ∧ e_Has kTy w' ∧ (e_fr kNw w w' ∧ w' 74 0 = w 74 0 + 1) ∧ ∃ h', h ≤ h' ∧ kI w' OP OD CL h' (-1) ∧ w 74 1 ≤ w' 74 1 ∧ w' 74 1 ≤ w 74 1 + 900) := by
                              intro m227 m227r
                              refine e_Ok.callV rfl (by omega) rfl rfl rfl rfl (c_113 (by omega) q216T (by omega) (by omega) Q218.pf) (fun r229 w230 h231 => ?_)
                              obtain ⟨z233, rfl, q232f, q232T, q232r, q232x⟩ := h231
                              have f234 : e_fr kNw w w230 := e_fr.trans f217 (e_fr.mono q232f (fun c k q => by exact nw_kPo q))
                              have Q235 := kI.po Q218 q232T (e_fr.mono q232f (fun c k g => ph_kPo g)) q232x
                              show e_Ok 20 elay kcode eI (d + 1) 259 (182, [(0, (1, 0)), (2, (0, y2c))], [(0, z233)], w230) _
                              refine e_Ok.run (t' := (183, [(0, (1, 0)), (2, (0, y2c))], [], w230)) 1 rfl ?_
                              refine e_Ok.inc (z := y2c + 1) rfl rfl (by omega) (by omega) ?_
                              show e_Ok 20 elay kcode eI (d + 1) 259 (186, [(2, (0, y2c + 1)), (0, (1, 0))], [], w230) _
                              refine e_Ok.run (t' := (119, [(2, (0, y2c + 1)), (0, (1, 0))], [], w230)) 1 rfl ?_
                              refine e_Ok.sub kAlk (e_sub_of rfl ?_) (ih187 (y2c + 1) w230 ⟨f234, q232T, ((q232f _ _ (by unfold kPo; omega)).trans tG), Q235, (by rw [q232f _ _ (by unfold kPo; omega)]; omega), by omega⟩ (by omega))
                              exact ⟨rfl, rfl, trivial⟩
                            refine e_Ok.if1 rfl (fun h226 => ?_) (fun h226 => ?_)
                            · exact e_Ok.run 1 rfl (hJ228 0 (by omega))
                            · exact e_Ok.run 2 rfl (hJ228 1 (by omega))
                    refine e_Ok.sub kAlk (e_sub_of rfl ?_) (hL186 (4 + 1 : Int).toNat 0 v2 ⟨j176, j177, j178, j179, (by omega), by omega⟩ (by omega))
                    exact ⟨rfl, rfl, trivial⟩
                  · replace h185 : (v2 74 3 : Int) ≠ 0 := by have q : ¬ ((v2 74 3 : Int) = 0) := h185; omega
                    refine e_Ok.run (t' := (114, [(0, (1, 0)), (2, (0, y2b))], [(1, 0)], v2)) 1 rfl ?_
                    refine e_Ok.callV rfl (by omega) rfl rfl rfl rfl (c_262 (by omega) j177 j179 (by omega)) (fun r236 w237 h238 => ?_)
                    obtain ⟨rfl, q239T, q239f, q239x⟩ := h238
                    have f240 : e_fr kNw w w237 := e_fr.trans j176 (e_fr.mono q239f.1 (fun c k q => by exact q))
                    show e_Ok 20 elay kcode eI (d + 1) 259 (117, [(0, (1, 0)), (2, (0, y2b))], [], w237) _
                    refine e_Ok.run (t' := (119, [(2, (0, 0)), (0, (1, 0))], [], w237)) 2 rfl ?_
                    have hL241 : ∀ (nn : Nat) (y2c : Int) (v3 : eW), e_fr kNw w v3 ∧ e_Has kTy v3 ∧ v3 74 0 = w 74 0 + 1 ∧ kI v3 OP OD CL h1 (-1) ∧ ((w 74 1 ≤ v3 74 1 ∧ v3 74 1 ≤ w 74 1 + 398)) ∧ (0 ≤ y2c ∧ y2c ≤ 4) → 4 - y2c < nn → e_Ok 20 elay kcode eI (d + 1) 259 (119, [(0, (1, 0)), (2, (0, y2c))], [], v3) (fun r w' => r = [] ∧ e_Has kTy w' ∧ (e_fr kNw w w' ∧ w' 74 0 = w 74 0 + 1) ∧ ∃ h', h ≤ h' ∧ kI w' OP OD CL h' (-1) ∧ w 74 1 ≤ w' 74 1 ∧ w' 74 1 ≤ w 74 1 + 900) := by
                      intro nn
                      induction nn with
                      | zero => intro y2c v3 hj hm; obtain ⟨j243, j244, j245, j246, j247, j248⟩ := hj; exfalso; omega
                      | succ nn ih242 =>
                        intro y2c v3 hj hm
                        obtain ⟨j243, j244, j245, j246, j247, j248⟩ := hj
                        have b0 : v3 19 0 = w 19 0 := j243 _ _ (by unfold kNw; omega)
                        refine e_Ok.run (t' := (121, [(0, (1, 0)), (2, (0, y2c))], [(1, 0), (0, y2c)], v3)) 2 rfl ?_
                        refine e_Ok.getr (z := 19) rfl rfl rfl rfl ((j243 0 4 (by unfold kNw; omega)).trans (Eq.trans (e_Has.eq hT rfl) (by omega))) (by omega) ?_
                        have h249 := (e_Has.get hT (c := 19) (k := 0) (lo := 0) (hi := 4) rfl (by decide))
                        refine e_Ok.getf (z := w 19 0) rfl rfl rfl rfl ((j243 19 0 (by unfold kNw; omega)).trans rfl) (by omega) ?_
                        refine e_Ok.if2 rfl (fun h250 => ?_) (fun h250 => ?_)
                        · replace h250 : (y2c : Int) ≥ w 19 0 := h250
                          refine e_Ok.run (t' := (191, [(2, (0, 0)), (0, (1, 0))], [], v3)) 2 rfl ?_
                          have hL251 : ∀ (nn : Nat) (y2d : Int) (v4 : eW), e_fr kNw w v4 ∧ e_Has kTy v4 ∧ v4 74 0 = w 74 0 + 1 ∧ kI v4 OP OD CL h1 (-1) ∧ ((w 74 1 ≤ v4 74 1 ∧ v4 74 1 ≤ w 74 1 + 398)) ∧ (0 ≤ y2d ∧ y2d ≤ 4) → 4 - y2d < nn → e_Ok 20 elay kcode eI (d + 1) 259 (191, [(0, (1, 0)), (2, (0, y2d))], [], v4) (fun r w' => r = [] ∧ e_Has kTy w' ∧ (e_fr kNw w w' ∧ w' 74 0 = w 74 0 + 1) ∧ ∃ h', h ≤ h' ∧ kI w' OP OD CL h' (-1) ∧ w 74 1 ≤ w' 74 1 ∧ w' 74 1 ≤ w 74 1 + 900) := by
                            intro nn
                            induction nn with
                            | zero => intro y2d v4 hj hm; obtain ⟨j253, j254, j255, j256, j257, j258⟩ := hj; exfalso; omega
                            | succ nn ih252 =>
                              intro y2d v4 hj hm
                              obtain ⟨j253, j254, j255, j256, j257, j258⟩ := hj
                              refine e_Ok.run (t' := (193, [(0, (1, 0)), (2, (0, y2d))], [(1, 0), (0, y2d)], v4)) 2 rfl ?_
                              refine e_Ok.getf (z := w 0 11) rfl rfl rfl rfl ((j253 0 11 (by unfold kNw; omega)).trans rfl) (by omega) ?_
                              refine e_Ok.if2 rfl (fun h259 => ?_) (fun h259 => ?_)
                              · replace h259 : (y2d : Int) ≥ w 0 11 := h259
                                have hfk := j256.fk; have hbl := j256.bel
                                refine e_Ok.jp rfl ⟨rfl, j254, fun b g1 g2 => ⟨(hfk.1 b g1 g2).1, fun i g3 g4 => ?_⟩, fun p g1 g2 => ?_⟩ (fun w260 hw260 => ?_)
                                · have g5 := ((hfk.1 b g1 g2).2 i g3 g4).1; have g6 := e_Has.get j254 (c := 19) (k := 1) (lo := 0) (hi := 32) rfl (by decide); unfold kn1; omega
                                · have g5 := (hfk.2 p g1 g2).1; unfold kn1; omega
                                have fHv : e_fr kHv v4 w260 := by rw [← hw260]; exact e_hk_fr _
                                have QH := kI.hk j256 hw260
                                have f261 : e_fr kNw w w260 := e_fr.trans j253 (e_fr.mono fHv (fun c k q => by exact nw_kHv q))
                                refine e_Ok.rets rfl rfl ?_
                                exact ⟨rfl, QH.1, ⟨f261, (fHv _ _ (by unfold kHv; omega)).trans j255⟩, h1, j169, QH, by rw [fHv _ _ (by unfold kHv; omega)]; omega, by rw [fHv _ _ (by unfold kHv; omega)]; omega⟩
                              · replace h259 : (y2d : Int) < w 0 11 := by have q : ¬ ((y2d : Int) ≥ w 0 11) := h259; omega
                                refine e_Ok.run (t' := (200, [(0, (1, 0)), (2, (0, y2d))], [(1, 0)], v4)) 1 rfl ?_
                                refine e_Ok.getr (z := 9) rfl rfl rfl rfl ((j253 0 2 (by unfold kNw; omega)).trans (Eq.trans (e_Has.eq hT rfl) (by omega))) (by omega) ?_
                                refine e_Ok.run (t' := (204, [(0, (1, 0)), (2, (0, y2d))], [(0, y2d), (1, 9)], v4)) 1 rfl ?_
                                refine e_Ok.aald (z := 17 * y2d + 86) rfl rfl rfl (by omega) ((j253 9 y2d (by unfold kNw; omega)).trans (Eq.trans (e_Has.eq hT (k9 (by omega))) (by omega))) (by omega) ?_
                                refine e_Ok.callV rfl (by omega) rfl (lA0 (a := y2d) (by omega) (by omega)) rfl rfl (c_11 (a := y2d) j254 (by omega) (j256.arm (by omega) (by omega)).1) (fun r262 w263 h264 => ?_)
                                obtain ⟨rfl, q265f, q265T, q265x⟩ := h264
                                have f266 : e_fr kNw w w263 := e_fr.trans j253 (e_fr.mono q265f (fun c k q => by exact nw_kOl (by omega) q))
                                have Q267 := kI.old j256 q265T (a := y2d) (by omega) q265f q265x
                                show e_Ok 20 elay kcode eI (d + 1) 259 (208, [(0, (1, 0)), (2, (0, y2d))], [], w263) _
                                refine e_Ok.inc (z := y2d + 1) rfl rfl (by omega) (by omega) ?_
                                show e_Ok 20 elay kcode eI (d + 1) 259 (211, [(2, (0, y2d + 1)), (0, (1, 0))], [], w263) _
                                refine e_Ok.run (t' := (191, [(2, (0, y2d + 1)), (0, (1, 0))], [], w263)) 1 rfl ?_
                                refine e_Ok.sub kAlk (e_sub_of rfl ?_) (ih252 (y2d + 1) w263 ⟨f266, q265T, ((q265f _ _ (by unfold kOl; omega)).trans j255), Q267, (by rw [q265f _ _ (by unfold kOl; omega)]; omega), by omega⟩ (by omega))
                                exact ⟨rfl, rfl, trivial⟩
                          refine e_Ok.sub kAlk (e_sub_of rfl ?_) (hL251 (4 + 1 : Int).toNat 0 v3 ⟨j243, j244, j245, j246, by omega, by omega⟩ (by omega))
                          exact ⟨rfl, rfl, trivial⟩
                        · replace h250 : (y2c : Int) < w 19 0 := by have q : ¬ ((y2c : Int) ≥ w 19 0) := h250; omega
                          refine e_Ok.run (t' := (131, [(0, (1, 0)), (2, (0, y2c))], [(1, 0)], v3)) 1 rfl ?_
                          refine e_Ok.getr (z := 19) rfl rfl rfl rfl ((j243 0 4 (by unfold kNw; omega)).trans (Eq.trans (e_Has.eq hT rfl) (by omega))) (by omega) ?_
                          refine e_Ok.run (t' := (135, [(0, (1, 0)), (2, (0, y2c))], [(0, y2c), (1, 19)], v3)) 1 rfl ?_
                          refine e_Ok.callV rfl (by omega) rfl rfl rfl rfl (c_86 j244 (by omega) j246.fk (by omega)) (fun r268 w269 h270 => ?_)
                          obtain ⟨rfl, q271f, q271T, q271x⟩ := h270
                          have f272 : e_fr kNw w w269 := e_fr.trans j243 (e_fr.mono q271f (fun c k q => by exact nw_kWy q))
                          have Q273 := kI.wy j246 q271T q271f q271x
                          have tG : w269 74 0 = w 74 0 + 1 := (q271f _ _ (by unfold kWy; omega)).trans j245
                          have vG : w269 74 1 = v3 74 1 := q271f _ _ (by unfold kWy; omega)
                          have bG : w269 19 0 = v3 19 0 := q271f _ _ (by unfold kWy; omega)
                          show e_Ok 20 elay kcode eI (d + 1) 259 (138, [(0, (1, 0)), (2, (0, y2c))], [], w269) _
                          refine e_Ok.run (t' := (139, [(0, (1, 0)), (2, (0, y2c))], [(1, 0)], w269)) 1 rfl ?_
                          refine e_Ok.getr (z := 19) rfl rfl rfl rfl ((q271f 0 4 (by unfold kWy; omega)).trans ((j243 0 4 (by unfold kNw; omega)).trans (Eq.trans (e_Has.eq hT rfl) (by omega)))) (by omega) ?_
                          refine e_Ok.getr (z := 22) rfl rfl rfl rfl ((q271f 19 4 (by unfold kWy; omega)).trans ((j243 19 4 (by unfold kNw; omega)).trans (Eq.trans (e_Has.eq hT rfl) (by omega)))) (by omega) ?_
                          refine e_Ok.run (t' := (146, [(0, (1, 0)), (2, (0, y2c))], [(0, y2c), (1, 22)], w269)) 1 rfl ?_
                          have h274 := (e_Has.get hT (c := 22) (k := y2c) (lo := (-1)) (hi := 63) rfl (by decide))
                          refine e_Ok.ald (z := w 22 y2c) rfl rfl rfl (by omega) ((q271f 22 y2c (by unfold kWy; omega)).trans ((j243 22 y2c (by unfold kNw; omega)).trans rfl)) (by omega) ?_
                          refine e_Ok.if1 rfl (fun h275 => ?_) (fun h275 => ?_)
                          · replace h275 : (w 22 y2c : Int) < 0 := h275
                            refine e_Ok.inc (z := y2c + 1) rfl rfl (by omega) (by omega) ?_
                            show e_Ok 20 elay kcode eI (d + 1) 259 (186, [(2, (0, y2c + 1)), (0, (1, 0))], [], w269) _
                            refine e_Ok.run (t' := (119, [(2, (0, y2c + 1)), (0, (1, 0))], [], w269)) 1 rfl ?_
                            refine e_Ok.sub kAlk (e_sub_of rfl ?_) (ih242 (y2c + 1) w269 ⟨f272, q271T, tG, Q273, (by omega), by omega⟩ (by omega))
                            exact ⟨rfl, rfl, trivial⟩
                          · replace h275 : (w 22 y2c : Int) ≥ 0 := by have q : ¬ ((w 22 y2c : Int) < 0) := h275; omega
                            refine e_Ok.run (t' := (151, [(0, (1, 0)), (2, (0, y2c))], [(1, 0)], w269)) 1 rfl ?_
                            refine e_Ok.getr (z := 10) rfl rfl rfl rfl ((q271f 0 3 (by unfold kWy; omega)).trans ((j243 0 3 (by unfold kNw; omega)).trans (Eq.trans (e_Has.eq hT rfl) (by omega)))) (by omega) ?_
                            refine e_Ok.run (t' := (155, [(0, (1, 0)), (2, (0, y2c))], [(1, 0), (1, 10)], w269)) 1 rfl ?_
                            refine e_Ok.getr (z := 19) rfl rfl rfl rfl ((q271f 0 4 (by unfold kWy; omega)).trans ((j243 0 4 (by unfold kNw; omega)).trans (Eq.trans (e_Has.eq hT rfl) (by omega)))) (by omega) ?_
                            refine e_Ok.getr (z := 22) rfl rfl rfl rfl ((q271f 19 4 (by unfold kWy; omega)).trans ((j243 19 4 (by unfold kNw; omega)).trans (Eq.trans (e_Has.eq hT rfl) (by omega)))) (by omega) ?_
                            refine e_Ok.run (t' := (162, [(0, (1, 0)), (2, (0, y2c))], [(0, y2c), (1, 22), (1, 10)], w269)) 1 rfl ?_
                            refine e_Ok.ald (z := w 22 y2c) rfl rfl rfl (by omega) ((q271f 22 y2c (by unfold kWy; omega)).trans ((j243 22 y2c (by unfold kNw; omega)).trans rfl)) (by omega) ?_
                            refine e_Ok.run (t' := (164, [(0, (1, 0)), (2, (0, y2c))], [(1, 0), (0, w 22 y2c), (1, 10)], w269)) 1 rfl ?_
                            refine e_Ok.getr (z := 19) rfl rfl rfl rfl ((q271f 0 4 (by unfold kWy; omega)).trans ((j243 0 4 (by unfold kNw; omega)).trans (Eq.trans (e_Has.eq hT rfl) (by omega)))) (by omega) ?_
                            refine e_Ok.run (t' := (168, [(0, (1, 0)), (2, (0, y2c))], [(0, y2c), (1, 19), (0, w 22 y2c), (1, 10)], w269)) 1 rfl ?_
                            refine e_Ok.callV rfl (by omega) rfl rfl rfl rfl (c_87 (by omega) q271T (by omega) Q273.fk (by omega)) (fun r276 w277 h278 => ?_)
                            obtain ⟨z280, rfl, rfl, q279r⟩ := h278
                            show e_Ok 20 elay kcode eI (d + 1) 259 (171, [(0, (1, 0)), (2, (0, y2c))], [(0, z280), (0, w 22 y2c), (1, 10)], w269) _
                            have hJ283 : ∀ m282 : Int, 0 ≤ m282 ∧ m282 ≤ 1 → e_Ok 20 elay kcode eI (d + 1) 259 (179, [(0, (1, 0)), (2, (0, y2c))], [(0, m282), (0, w 22 y2c), (1, 10)], w269) (fun r w' => r = [] ∧ e_Has kTy w' ∧ (e_fr kNw w w' ∧ w' 74 0 = w 74 0 + 1) ∧ ∃ h', h ≤ h' ∧ kI w' OP OD CL h' (-1) ∧ w 74 1 ≤ w' 74 1 ∧ w' 74 1 ≤ w 74 1 + 900) := by
                              intro m282 m282r
                              refine e_Ok.callV rfl (by omega) rfl rfl rfl rfl (c_113 (by omega) q271T (by omega) (by omega) Q273.pf) (fun r284 w285 h286 => ?_)
                              obtain ⟨z288, rfl, q287f, q287T, q287r, q287x⟩ := h286
                              have f289 : e_fr kNw w w285 := e_fr.trans f272 (e_fr.mono q287f (fun c k q => by exact nw_kPo q))
                              have Q290 := kI.po Q273 q287T (e_fr.mono q287f (fun c k g => ph_kPo g)) q287x
                              show e_Ok 20 elay kcode eI (d + 1) 259 (182, [(0, (1, 0)), (2, (0, y2c))], [(0, z288)], w285) _
                              refine e_Ok.run (t' := (183, [(0, (1, 0)), (2, (0, y2c))], [], w285)) 1 rfl ?_
                              refine e_Ok.inc (z := y2c + 1) rfl rfl (by omega) (by omega) ?_
                              show e_Ok 20 elay kcode eI (d + 1) 259 (186, [(2, (0, y2c + 1)), (0, (1, 0))], [], w285) _
                              refine e_Ok.run (t' := (119, [(2, (0, y2c + 1)), (0, (1, 0))], [], w285)) 1 rfl ?_
                              refine e_Ok.sub kAlk (e_sub_of rfl ?_) (ih242 (y2c + 1) w285 ⟨f289, q287T, ((q287f _ _ (by unfold kPo; omega)).trans tG), Q290, (by rw [q287f _ _ (by unfold kPo; omega)]; omega), by omega⟩ (by omega))
                              exact ⟨rfl, rfl, trivial⟩
                            refine e_Ok.if1 rfl (fun h281 => ?_) (fun h281 => ?_)
                            · exact e_Ok.run 1 rfl (hJ283 0 (by omega))
                            · exact e_Ok.run 2 rfl (hJ283 1 (by omega))
                    refine e_Ok.sub kAlk (e_sub_of rfl ?_) (hL241 (4 + 1 : Int).toNat 0 w237 ⟨f240, q239T, (q239f.2.trans j178), q239x.1, (by have g := q239x.2; omega), by omega⟩ (by omega))
                    exact ⟨rfl, rfl, trivial⟩
                · replace h183 : (y2b : Int) < w 0 11 := by have q : ¬ ((y2b : Int) ≥ w 0 11) := h183; omega
                  refine e_Ok.run (t' := (94, [(0, (1, 0)), (2, (0, y2b))], [(0, y2b), (1, 0)], v2)) 2 rfl ?_
                  refine e_Ok.callV rfl (by omega) rfl rfl rfl rfl (c_260 (by omega) (a := y2b) j177 (by omega) j179 (by omega)) (fun r291 w292 h293 => ?_)
                  obtain ⟨rfl, q294T, q294f, q294x⟩ := h293
                  have f295 : e_fr kNw w w292 := e_fr.trans j176 (e_fr.mono q294f.1 (fun c k q => by exact q))
                  show e_Ok 20 elay kcode eI (d + 1) 259 (97, [(0, (1, 0)), (2, (0, y2b))], [], w292) _
                  refine e_Ok.inc (z := y2b + 1) rfl rfl (by omega) (by omega) ?_
                  show e_Ok 20 elay kcode eI (d + 1) 259 (100, [(2, (0, y2b + 1)), (0, (1, 0))], [], w292) _
                  refine e_Ok.run (t' := (84, [(2, (0, y2b + 1)), (0, (1, 0))], [], w292)) 1 rfl ?_
                  refine e_Ok.sub kAlk (e_sub_of rfl ?_) (ih175 (y2b + 1) w292 ⟨f295, q294T, (q294f.2.trans j178), q294x.1, (by have g := q294x.2; omega), by omega⟩ (by omega))
                  exact ⟨rfl, rfl, trivial⟩
            refine e_Ok.sub kAlk (e_sub_of rfl ?_) (hL174 (4 + 1 : Int).toNat 0 v1 ⟨j166, j167, j168, j170, by omega, by omega⟩ (by omega))
            exact ⟨rfl, rfl, trivial⟩
          · replace h173 : (y2 : Int) < 16 := by have q : ¬ ((y2 : Int) ≥ 16) := h173; omega
            refine e_Ok.run (t' := (50, [(0, (1, 0)), (2, (0, y2))], [(1, 0)], v1)) 1 rfl ?_
            refine e_Ok.getr (z := 8) rfl rfl rfl rfl ((j166 0 1 (by unfold kNw; omega)).trans (Eq.trans (e_Has.eq hT rfl) (by omega))) (by omega) ?_
            refine e_Ok.run (t' := (54, [(0, (1, 0)), (2, (0, y2))], [(0, y2), (1, 8)], v1)) 1 rfl ?_
            refine e_Ok.callV rfl (by omega) rfl rfl rfl rfl (c_42 (by omega) j167 (by omega) j170) (fun r296 w297 h298 => ?_)
            obtain ⟨z299, rfl, rfl, q300r, q300x⟩ := h298
            show e_Ok 20 elay kcode eI (d + 1) 259 (57, [(0, (1, 0)), (2, (0, y2))], [(0, z299)], v1) _
            refine e_Ok.if1 rfl (fun h301 => ?_) (fun h301 => ?_)
            · replace h301 : (z299 : Int) = 0 := h301
              refine e_Ok.inc (z := y2 + 1) rfl rfl (by omega) (by omega) ?_
              show e_Ok 20 elay kcode eI (d + 1) 259 (79, [(2, (0, y2 + 1)), (0, (1, 0))], [], v1) _
              refine e_Ok.run (t' := (43, [(2, (0, y2 + 1)), (0, (1, 0))], [], v1)) 1 rfl ?_
              refine e_Ok.sub kAlk (e_sub_of rfl ?_) (ih165 (y2 + 1) v1 h1 ⟨j166, j167, j168, j169, j170, (by omega), by omega⟩ (by omega))
              exact ⟨rfl, rfl, trivial⟩
            · replace h301 : (z299 : Int) ≠ 0 := by have q : ¬ ((z299 : Int) = 0) := h301; omega
              refine e_Ok.run (t' := (61, [(0, (1, 0)), (2, (0, y2))], [(1, 0)], v1)) 1 rfl ?_
              refine e_Ok.getr (z := 8) rfl rfl rfl rfl ((j166 0 1 (by unfold kNw; omega)).trans (Eq.trans (e_Has.eq hT rfl) (by omega))) (by omega) ?_
              refine e_Ok.run (t' := (65, [(0, (1, 0)), (2, (0, y2))], [(1, 0), (1, 8)], v1)) 1 rfl ?_
              refine e_Ok.getr (z := 8) rfl rfl rfl rfl ((j166 0 1 (by unfold kNw; omega)).trans (Eq.trans (e_Has.eq hT rfl) (by omega))) (by omega) ?_
              refine e_Ok.getr (z := 82) rfl rfl rfl rfl ((j166 8 4 (by unfold kNw; omega)).trans (Eq.trans (e_Has.eq hT rfl) (by omega))) (by omega) ?_
              refine e_Ok.run (t' := (72, [(0, (1, 0)), (2, (0, y2))], [(0, y2), (1, 82), (1, 8)], v1)) 1 rfl ?_
              refine e_Ok.aald (z := 6 * y2 + 154) rfl rfl rfl (by omega) ((j166 82 y2 (by unfold kNw; omega)).trans (Eq.trans (e_Has.eq hT (k82 (by omega))) (by omega))) (by omega) ?_
              have hact := q300x (by omega)
              have tq := j170.ts (t := y2) (by omega) (by omega)
              have ta := tq.1.1 (by omega) (by omega)
              have tb := e_Has.get j167 (c := 6 * y2 + 154) (k := 2) (lo := -1) (hi := 3) (kT_2 (t := y2) rfl (by omega)) (by decide)
              refine e_Ok.callV rfl (by omega) rfl rfl rfl rfl (c_43 (by omega) j167 (by omega) (kI.weak j170 (by decide)) (a := v1 (6 * y2 + 154) 2) (by omega) rfl rfl (by omega) hact ((tq.2 hact.1 hact.2).2 (by omega)) (by omega)) (fun r302 w303 h304 => ?_)
              obtain ⟨rfl, q305T, q305f, q305h, q305x⟩ := h304
              have f306 : e_fr kNw w w303 := e_fr.trans j166 (e_fr.mono q305f.1 (fun c k q => by exact q))
              show e_Ok 20 elay kcode eI (d + 1) 259 (76, [(0, (1, 0)), (2, (0, y2))], [], w303) _
              refine e_Ok.inc (z := y2 + 1) rfl rfl (by omega) (by omega) ?_
              show e_Ok 20 elay kcode eI (d + 1) 259 (79, [(2, (0, y2 + 1)), (0, (1, 0))], [], w303) _
              refine e_Ok.run (t' := (43, [(2, (0, y2 + 1)), (0, (1, 0))], [], w303)) 1 rfl ?_
              refine e_Ok.sub kAlk (e_sub_of rfl ?_) (ih165 (y2 + 1) w303 q305h ⟨f306, q305T, (q305f.2.trans j168), (Int.le_trans j169 q305x.1), q305x.2.1, (by have g := q305x.2.2; omega), by omega⟩ (by omega))
              exact ⟨rfl, rfl, trivial⟩
      refine e_Ok.sub kAlk (e_sub_of rfl ?_) (hL164 (16 + 1 : Int).toNat 0 w5 h ⟨f9, q8T, tB, Int.le_refl h, Q10, (by omega), by omega⟩ (by omega))
      exact ⟨rfl, rfl, trivial⟩
    · replace h163 : (z7 : Int) ≥ 0 := by have q : ¬ ((z7 : Int) < 0) := h163; omega
      refine e_Ok.run (t' := (38, [(1, (0, z7)), (0, (1, 0))], [(0, z7), (0, 1), (1, 0)], w5)) 3 rfl ?_
      refine e_Ok.callV rfl (by omega) rfl rfl rfl rfl (c_265 (by omega) q8T (by omega) (by omega) Q10 (by omega)) (fun r307 w308 h309 => ?_)
      obtain ⟨rfl, q310T, q310f, q310x⟩ := h309
      have f311 : e_fr kNw w w308 := e_fr.trans f9 (e_fr.mono q310f.1 (fun c k q => by exact q))
      show e_Ok 20 elay kcode eI (d + 1) 259 (41, [(1, (0, z7)), (0, (1, 0))], [], w308) _
      refine e_Ok.run (t' := (43, [(2, (0, 0)), (1, (0, z7)), (0, (1, 0))], [], w308)) 2 rfl ?_
      have hL312 : ∀ (nn : Nat) (y2 : Int) (v1 : eW) (h1 : Int), e_fr kNw w v1 ∧ e_Has kTy v1 ∧ v1 74 0 = w 74 0 + 1 ∧ h ≤ h1 ∧ kI v1 OP OD CL h1 (-1) ∧ ((w 74 1 ≤ v1 74 1 ∧ v1 74 1 ≤ w 74 1 + 5 + 24 * y2)) ∧ (0 ≤ y2 ∧ y2 ≤ 16) → 16 - y2 < nn → e_Ok 20 elay kcode eI (d + 1) 259 (43, [(0, (1, 0)), (2, (0, y2))], [], v1) (fun r w' => r = [] ∧ e_Has kTy w' ∧ (e_fr kNw w w' ∧ w' 74 0 = w 74 0 + 1) ∧ ∃ h', h ≤ h' ∧ kI w' OP OD CL h' (-1) ∧ w 74 1 ≤ w' 74 1 ∧ w' 74 1 ≤ w 74 1 + 900) := by
        intro nn
        induction nn with
        | zero => intro y2 v1 h1 hj hm; obtain ⟨j314, j315, j316, j317, j318, j319, j320⟩ := hj; exfalso; omega
        | succ nn ih313 =>
          intro y2 v1 h1 hj hm
          obtain ⟨j314, j315, j316, j317, j318, j319, j320⟩ := hj
          refine e_Ok.run (t' := (46, [(0, (1, 0)), (2, (0, y2))], [(0, 16), (0, y2)], v1)) 2 rfl ?_
          refine e_Ok.if2 rfl (fun h321 => ?_) (fun h321 => ?_)
          · replace h321 : (y2 : Int) ≥ 16 := h321
            refine e_Ok.run (t' := (84, [(2, (0, 0)), (0, (1, 0))], [], v1)) 2 rfl ?_
            have hL322 : ∀ (nn : Nat) (y2b : Int) (v2 : eW), e_fr kNw w v2 ∧ e_Has kTy v2 ∧ v2 74 0 = w 74 0 + 1 ∧ kI v2 OP OD CL h1 (-1) ∧ ((w 74 1 ≤ v2 74 1 ∧ v2 74 1 ≤ w 74 1 + 389 + y2b)) ∧ (0 ≤ y2b ∧ y2b ≤ 4) → 4 - y2b < nn → e_Ok 20 elay kcode eI (d + 1) 259 (84, [(0, (1, 0)), (2, (0, y2b))], [], v2) (fun r w' => r = [] ∧ e_Has kTy w' ∧ (e_fr kNw w w' ∧ w' 74 0 = w 74 0 + 1) ∧ ∃ h', h ≤ h' ∧ kI w' OP OD CL h' (-1) ∧ w 74 1 ≤ w' 74 1 ∧ w' 74 1 ≤ w 74 1 + 900) := by
              intro nn
              induction nn with
              | zero => intro y2b v2 hj hm; obtain ⟨j324, j325, j326, j327, j329, j331⟩ := hj; exfalso; omega
              | succ nn ih323 =>
                intro y2b v2 hj hm
                obtain ⟨j324, j325, j326, j327, j329, j331⟩ := hj
                refine e_Ok.run (t' := (86, [(0, (1, 0)), (2, (0, y2b))], [(1, 0), (0, y2b)], v2)) 2 rfl ?_
                have h332 := (e_Has.get hT (c := 0) (k := 11) (lo := 0) (hi := 4) rfl (by decide))
                refine e_Ok.getf (z := w 0 11) rfl rfl rfl rfl ((j324 0 11 (by unfold kNw; omega)).trans rfl) (by omega) ?_
                refine e_Ok.if2 rfl (fun h333 => ?_) (fun h333 => ?_)
                · replace h333 : (y2b : Int) ≥ w 0 11 := h333
                  refine e_Ok.run (t' := (104, [(0, (1, 0)), (2, (0, y2b))], [(1, 0)], v2)) 1 rfl ?_
                  refine e_Ok.getr (z := 74) rfl rfl rfl rfl ((j324 0 5 (by unfold kNw; omega)).trans (Eq.trans (e_Has.eq hT rfl) (by omega))) (by omega) ?_
                  have h334 := (e_Has.get j325 (c := 74) (k := 3) (lo := 0) (hi := 1) rfl (by decide))
                  refine e_Ok.getf (z := v2 74 3) rfl rfl rfl rfl rfl (by omega) ?_
                  refine e_Ok.if1 rfl (fun h335 => ?_) (fun h335 => ?_)
                  · replace h335 : (v2 74 3 : Int) = 0 := h335
                    refine e_Ok.run (t' := (119, [(2, (0, 0)), (0, (1, 0))], [], v2)) 2 rfl ?_
                    have hL336 : ∀ (nn : Nat) (y2c : Int) (v3 : eW), e_fr kNw w v3 ∧ e_Has kTy v3 ∧ v3 74 0 = w 74 0 + 1 ∧ kI v3 OP OD CL h1 (-1) ∧ ((w 74 1 ≤ v3 74 1 ∧ v3 74 1 ≤ w 74 1 + 398)) ∧ (0 ≤ y2c ∧ y2c ≤ 4) → 4 - y2c < nn → e_Ok 20 elay kcode eI (d + 1) 259 (119, [(0, (1, 0)), (2, (0, y2c))], [], v3) (fun r w' => r = [] ∧ e_Has kTy w' ∧ (e_fr kNw w w' ∧ w' 74 0 = w 74 0 + 1) ∧ ∃ h', h ≤ h' ∧ kI w' OP OD CL h' (-1) ∧ w 74 1 ≤ w' 74 1 ∧ w' 74 1 ≤ w 74 1 + 900) := by
                      intro nn
                      induction nn with
                      | zero => intro y2c v3 hj hm; obtain ⟨j339, j340, j341, j342, j343, j344⟩ := hj; exfalso; omega
                      | succ nn ih337 =>
                        intro y2c v3 hj hm
                        obtain ⟨j339, j340, j341, j342, j343, j344⟩ := hj
                        have b0 : v3 19 0 = w 19 0 := j339 _ _ (by unfold kNw; omega)
                        refine e_Ok.run (t' := (121, [(0, (1, 0)), (2, (0, y2c))], [(1, 0), (0, y2c)], v3)) 2 rfl ?_
                        refine e_Ok.getr (z := 19) rfl rfl rfl rfl ((j339 0 4 (by unfold kNw; omega)).trans (Eq.trans (e_Has.eq hT rfl) (by omega))) (by omega) ?_
                        have h345 := (e_Has.get hT (c := 19) (k := 0) (lo := 0) (hi := 4) rfl (by decide))
                        refine e_Ok.getf (z := w 19 0) rfl rfl rfl rfl ((j339 19 0 (by unfold kNw; omega)).trans rfl) (by omega) ?_
                        refine e_Ok.if2 rfl (fun h346 => ?_) (fun h346 => ?_)
                        · replace h346 : (y2c : Int) ≥ w 19 0 := h346
                          refine e_Ok.run (t' := (191, [(2, (0, 0)), (0, (1, 0))], [], v3)) 2 rfl ?_
                          have hL347 : ∀ (nn : Nat) (y2d : Int) (v4 : eW), e_fr kNw w v4 ∧ e_Has kTy v4 ∧ v4 74 0 = w 74 0 + 1 ∧ kI v4 OP OD CL h1 (-1) ∧ ((w 74 1 ≤ v4 74 1 ∧ v4 74 1 ≤ w 74 1 + 398)) ∧ (0 ≤ y2d ∧ y2d ≤ 4) → 4 - y2d < nn → e_Ok 20 elay kcode eI (d + 1) 259 (191, [(0, (1, 0)), (2, (0, y2d))], [], v4) (fun r w' => r = [] ∧ e_Has kTy w' ∧ (e_fr kNw w w' ∧ w' 74 0 = w 74 0 + 1) ∧ ∃ h', h ≤ h' ∧ kI w' OP OD CL h' (-1) ∧ w 74 1 ≤ w' 74 1 ∧ w' 74 1 ≤ w 74 1 + 900) := by
                            intro nn
                            induction nn with
                            | zero => intro y2d v4 hj hm; obtain ⟨j349, j350, j351, j352, j353, j354⟩ := hj; exfalso; omega
                            | succ nn ih348 =>
                              intro y2d v4 hj hm
                              obtain ⟨j349, j350, j351, j352, j353, j354⟩ := hj
                              refine e_Ok.run (t' := (193, [(0, (1, 0)), (2, (0, y2d))], [(1, 0), (0, y2d)], v4)) 2 rfl ?_
                              refine e_Ok.getf (z := w 0 11) rfl rfl rfl rfl ((j349 0 11 (by unfold kNw; omega)).trans rfl) (by omega) ?_
                              refine e_Ok.if2 rfl (fun h355 => ?_) (fun h355 => ?_)
                              · replace h355 : (y2d : Int) ≥ w 0 11 := h355
                                have hfk := j352.fk; have hbl := j352.bel
                                refine e_Ok.jp rfl ⟨rfl, j350, fun b g1 g2 => ⟨(hfk.1 b g1 g2).1, fun i g3 g4 => ?_⟩, fun p g1 g2 => ?_⟩ (fun w356 hw356 => ?_)
                                · have g5 := ((hfk.1 b g1 g2).2 i g3 g4).1; have g6 := e_Has.get j350 (c := 19) (k := 1) (lo := 0) (hi := 32) rfl (by decide); unfold kn1; omega
                                · have g5 := (hfk.2 p g1 g2).1; unfold kn1; omega
                                have fHv : e_fr kHv v4 w356 := by rw [← hw356]; exact e_hk_fr _
                                have QH := kI.hk j352 hw356
                                have f357 : e_fr kNw w w356 := e_fr.trans j349 (e_fr.mono fHv (fun c k q => by exact nw_kHv q))
                                refine e_Ok.rets rfl rfl ?_
                                exact ⟨rfl, QH.1, ⟨f357, (fHv _ _ (by unfold kHv; omega)).trans j351⟩, h1, j317, QH, by rw [fHv _ _ (by unfold kHv; omega)]; omega, by rw [fHv _ _ (by unfold kHv; omega)]; omega⟩
                              · replace h355 : (y2d : Int) < w 0 11 := by have q : ¬ ((y2d : Int) ≥ w 0 11) := h355; omega
                                refine e_Ok.run (t' := (200, [(0, (1, 0)), (2, (0, y2d))], [(1, 0)], v4)) 1 rfl ?_
                                refine e_Ok.getr (z := 9) rfl rfl rfl rfl ((j349 0 2 (by unfold kNw; omega)).trans (Eq.trans (e_Has.eq hT rfl) (by omega))) (by omega) ?_
                                refine e_Ok.run (t' := (204, [(0, (1, 0)), (2, (0, y2d))], [(0, y2d), (1, 9)], v4)) 1 rfl ?_
                                refine e_Ok.aald (z := 17 * y2d + 86) rfl rfl rfl (by omega) ((j349 9 y2d (by unfold kNw; omega)).trans (Eq.trans (e_Has.eq hT (k9 (by omega))) (by omega))) (by omega) ?_
                                refine e_Ok.callV rfl (by omega) rfl (lA0 (a := y2d) (by omega) (by omega)) rfl rfl (c_11 (a := y2d) j350 (by omega) (j352.arm (by omega) (by omega)).1) (fun r358 w359 h360 => ?_)
                                obtain ⟨rfl, q361f, q361T, q361x⟩ := h360
                                have f362 : e_fr kNw w w359 := e_fr.trans j349 (e_fr.mono q361f (fun c k q => by exact nw_kOl (by omega) q))
                                have Q363 := kI.old j352 q361T (a := y2d) (by omega) q361f q361x
                                show e_Ok 20 elay kcode eI (d + 1) 259 (208, [(0, (1, 0)), (2, (0, y2d))], [], w359) _
                                refine e_Ok.inc (z := y2d + 1) rfl rfl (by omega) (by omega) ?_
                                show e_Ok 20 elay kcode eI (d + 1) 259 (211, [(2, (0, y2d + 1)), (0, (1, 0))], [], w359) _
                                refine e_Ok.run (t' := (191, [(2, (0, y2d + 1)), (0, (1, 0))], [], w359)) 1 rfl ?_
                                refine e_Ok.sub kAlk (e_sub_of rfl ?_) (ih348 (y2d + 1) w359 ⟨f362, q361T, ((q361f _ _ (by unfold kOl; omega)).trans j351), Q363, (by rw [q361f _ _ (by unfold kOl; omega)]; omega), by omega⟩ (by omega))
                                exact ⟨rfl, rfl, trivial⟩
                          refine e_Ok.sub kAlk (e_sub_of rfl ?_) (hL347 (4 + 1 : Int).toNat 0 v3 ⟨j339, j340, j341, j342, by omega, by omega⟩ (by omega))
                          exact ⟨rfl, rfl, trivial⟩
                        · replace h346 : (y2c : Int) < w 19 0 := by have q : ¬ ((y2c : Int) ≥ w 19 0) := h346; omega
                          refine e_Ok.run (t' := (131, [(0, (1, 0)), (2, (0, y2c))], [(1, 0)], v3)) 1 rfl ?_
                          refine e_Ok.getr (z := 19) rfl rfl rfl rfl ((j339 0 4 (by unfold kNw; omega)).trans (Eq.trans (e_Has.eq hT rfl) (by omega))) (by omega) ?_
                          refine e_Ok.run (t' := (135, [(0, (1, 0)), (2, (0, y2c))], [(0, y2c), (1, 19)], v3)) 1 rfl ?_
                          refine e_Ok.callV rfl (by omega) rfl rfl rfl rfl (c_86 j340 (by omega) j342.fk (by omega)) (fun r364 w365 h366 => ?_)
                          obtain ⟨rfl, q367f, q367T, q367x⟩ := h366
                          have f368 : e_fr kNw w w365 := e_fr.trans j339 (e_fr.mono q367f (fun c k q => by exact nw_kWy q))
                          have Q369 := kI.wy j342 q367T q367f q367x
                          have tG : w365 74 0 = w 74 0 + 1 := (q367f _ _ (by unfold kWy; omega)).trans j341
                          have vG : w365 74 1 = v3 74 1 := q367f _ _ (by unfold kWy; omega)
                          have bG : w365 19 0 = v3 19 0 := q367f _ _ (by unfold kWy; omega)
                          show e_Ok 20 elay kcode eI (d + 1) 259 (138, [(0, (1, 0)), (2, (0, y2c))], [], w365) _
                          refine e_Ok.run (t' := (139, [(0, (1, 0)), (2, (0, y2c))], [(1, 0)], w365)) 1 rfl ?_
                          refine e_Ok.getr (z := 19) rfl rfl rfl rfl ((q367f 0 4 (by unfold kWy; omega)).trans ((j339 0 4 (by unfold kNw; omega)).trans (Eq.trans (e_Has.eq hT rfl) (by omega)))) (by omega) ?_
                          refine e_Ok.getr (z := 22) rfl rfl rfl rfl ((q367f 19 4 (by unfold kWy; omega)).trans ((j339 19 4 (by unfold kNw; omega)).trans (Eq.trans (e_Has.eq hT rfl) (by omega)))) (by omega) ?_
                          refine e_Ok.run (t' := (146, [(0, (1, 0)), (2, (0, y2c))], [(0, y2c), (1, 22)], w365)) 1 rfl ?_
                          have h370 := (e_Has.get hT (c := 22) (k := y2c) (lo := (-1)) (hi := 63) rfl (by decide))
                          refine e_Ok.ald (z := w 22 y2c) rfl rfl rfl (by omega) ((q367f 22 y2c (by unfold kWy; omega)).trans ((j339 22 y2c (by unfold kNw; omega)).trans rfl)) (by omega) ?_
                          refine e_Ok.if1 rfl (fun h371 => ?_) (fun h371 => ?_)
                          · replace h371 : (w 22 y2c : Int) < 0 := h371
                            refine e_Ok.inc (z := y2c + 1) rfl rfl (by omega) (by omega) ?_
                            show e_Ok 20 elay kcode eI (d + 1) 259 (186, [(2, (0, y2c + 1)), (0, (1, 0))], [], w365) _
                            refine e_Ok.run (t' := (119, [(2, (0, y2c + 1)), (0, (1, 0))], [], w365)) 1 rfl ?_
                            refine e_Ok.sub kAlk (e_sub_of rfl ?_) (ih337 (y2c + 1) w365 ⟨f368, q367T, tG, Q369, (by omega), by omega⟩ (by omega))
                            exact ⟨rfl, rfl, trivial⟩
                          · replace h371 : (w 22 y2c : Int) ≥ 0 := by have q : ¬ ((w 22 y2c : Int) < 0) := h371; omega
                            refine e_Ok.run (t' := (151, [(0, (1, 0)), (2, (0, y2c))], [(1, 0)], w365)) 1 rfl ?_
                            refine e_Ok.getr (z := 10) rfl rfl rfl rfl ((q367f 0 3 (by unfold kWy; omega)).trans ((j339 0 3 (by unfold kNw; omega)).trans (Eq.trans (e_Has.eq hT rfl) (by omega)))) (by omega) ?_
                            refine e_Ok.run (t' := (155, [(0, (1, 0)), (2, (0, y2c))], [(1, 0), (1, 10)], w365)) 1 rfl ?_
                            refine e_Ok.getr (z := 19) rfl rfl rfl rfl ((q367f 0 4 (by unfold kWy; omega)).trans ((j339 0 4 (by unfold kNw; omega)).trans (Eq.trans (e_Has.eq hT rfl) (by omega)))) (by omega) ?_
                            refine e_Ok.getr (z := 22) rfl rfl rfl rfl ((q367f 19 4 (by unfold kWy; omega)).trans ((j339 19 4 (by unfold kNw; omega)).trans (Eq.trans (e_Has.eq hT rfl) (by omega)))) (by omega) ?_
                            refine e_Ok.run (t' := (162, [(0, (1, 0)), (2, (0, y2c))], [(0, y2c), (1, 22), (1, 10)], w365)) 1 rfl ?_
                            refine e_Ok.ald (z := w 22 y2c) rfl rfl rfl (by omega) ((q367f 22 y2c (by unfold kWy; omega)).trans ((j339 22 y2c (by unfold kNw; omega)).trans rfl)) (by omega) ?_
                            refine e_Ok.run (t' := (164, [(0, (1, 0)), (2, (0, y2c))], [(1, 0), (0, w 22 y2c), (1, 10)], w365)) 1 rfl ?_
                            refine e_Ok.getr (z := 19) rfl rfl rfl rfl ((q367f 0 4 (by unfold kWy; omega)).trans ((j339 0 4 (by unfold kNw; omega)).trans (Eq.trans (e_Has.eq hT rfl) (by omega)))) (by omega) ?_
                            refine e_Ok.run (t' := (168, [(0, (1, 0)), (2, (0, y2c))], [(0, y2c), (1, 19), (0, w 22 y2c), (1, 10)], w365)) 1 rfl ?_
                            refine e_Ok.callV rfl (by omega) rfl rfl rfl rfl (c_87 (by omega) q367T (by omega) Q369.fk (by omega)) (fun r372 w373 h374 => ?_)
                            obtain ⟨z376, rfl, rfl, q375r⟩ := h374
                            show e_Ok 20 elay kcode eI (d + 1) 259 (171, [(0, (1, 0)), (2, (0, y2c))], [(0, z376), (0, w 22 y2c), (1, 10)], w365) _
                            have hJ379 : ∀ m378 : Int, 0 ≤ m378 ∧ m378 ≤ 1 → e_Ok 20 elay kcode eI (d + 1) 259 (179, [(0, (1, 0)), (2, (0, y2c))], [(0, m378), (0, w 22 y2c), (1, 10)], w365) (fun r w' => r = [] ∧ e_Has kTy w' ∧ (e_fr kNw w w' ∧ w' 74 0 = w 74 0 + 1) ∧ ∃ h', h ≤ h' ∧ kI w' OP OD CL h' (-1) ∧ w 74 1 ≤ w' 74 1 ∧ w' 74 1 ≤ w 74 1 + 900) := by
                              intro m378 m378r
                              refine e_Ok.callV rfl (by omega) rfl rfl rfl rfl (c_113 (by omega) q367T (by omega) (by omega) Q369.pf) (fun r380 w381 h382 => ?_)
                              obtain ⟨z384, rfl, q383f, q383T, q383r, q383x⟩ := h382
                              have f385 : e_fr kNw w w381 := e_fr.trans f368 (e_fr.mono q383f (fun c k q => by exact nw_kPo q))
                              have Q386 := kI.po Q369 q383T (e_fr.mono q383f (fun c k g => ph_kPo g)) q383x
                              show e_Ok 20 elay kcode eI (d + 1) 259 (182, [(0, (1, 0)), (2, (0, y2c))], [(0, z384)], w381) _
                              refine e_Ok.run (t' := (183, [(0, (1, 0)), (2, (0, y2c))], [], w381)) 1 rfl ?_
                              refine e_Ok.inc (z := y2c + 1) rfl rfl (by omega) (by omega) ?_
                              show e_Ok 20 elay kcode eI (d + 1) 259 (186, [(2, (0, y2c + 1)), (0, (1, 0))], [], w381) _
                              refine e_Ok.run (t' := (119, [(2, (0, y2c + 1)), (0, (1, 0))], [], w381)) 1 rfl ?_
                              refine e_Ok.sub kAlk (e_sub_of rfl ?_) (ih337 (y2c + 1) w381 ⟨f385, q383T, ((q383f _ _ (by unfold kPo; omega)).trans tG), Q386, (by rw [q383f _ _ (by unfold kPo; omega)]; omega), by omega⟩ (by omega))
                              exact ⟨rfl, rfl, trivial⟩
                            refine e_Ok.if1 rfl (fun h377 => ?_) (fun h377 => ?_)
                            · exact e_Ok.run 1 rfl (hJ379 0 (by omega))
                            · exact e_Ok.run 2 rfl (hJ379 1 (by omega))
                    refine e_Ok.sub kAlk (e_sub_of rfl ?_) (hL336 (4 + 1 : Int).toNat 0 v2 ⟨j324, j325, j326, j327, (by omega), by omega⟩ (by omega))
                    exact ⟨rfl, rfl, trivial⟩
                  · replace h335 : (v2 74 3 : Int) ≠ 0 := by have q : ¬ ((v2 74 3 : Int) = 0) := h335; omega
                    refine e_Ok.run (t' := (114, [(0, (1, 0)), (2, (0, y2b))], [(1, 0)], v2)) 1 rfl ?_
                    refine e_Ok.callV rfl (by omega) rfl rfl rfl rfl (c_262 (by omega) j325 j327 (by omega)) (fun r387 w388 h389 => ?_)
                    obtain ⟨rfl, q390T, q390f, q390x⟩ := h389
                    have f391 : e_fr kNw w w388 := e_fr.trans j324 (e_fr.mono q390f.1 (fun c k q => by exact q))
                    show e_Ok 20 elay kcode eI (d + 1) 259 (117, [(0, (1, 0)), (2, (0, y2b))], [], w388) _
                    refine e_Ok.run (t' := (119, [(2, (0, 0)), (0, (1, 0))], [], w388)) 2 rfl ?_
                    have hL392 : ∀ (nn : Nat) (y2c : Int) (v3 : eW), e_fr kNw w v3 ∧ e_Has kTy v3 ∧ v3 74 0 = w 74 0 + 1 ∧ kI v3 OP OD CL h1 (-1) ∧ ((w 74 1 ≤ v3 74 1 ∧ v3 74 1 ≤ w 74 1 + 398)) ∧ (0 ≤ y2c ∧ y2c ≤ 4) → 4 - y2c < nn → e_Ok 20 elay kcode eI (d + 1) 259 (119, [(0, (1, 0)), (2, (0, y2c))], [], v3) (fun r w' => r = [] ∧ e_Has kTy w' ∧ (e_fr kNw w w' ∧ w' 74 0 = w 74 0 + 1) ∧ ∃ h', h ≤ h' ∧ kI w' OP OD CL h' (-1) ∧ w 74 1 ≤ w' 74 1 ∧ w' 74 1 ≤ w 74 1 + 900) := by
                      intro nn
                      induction nn with
                      | zero => intro y2c v3 hj hm; obtain ⟨j394, j395, j396, j397, j398, j399⟩ := hj; exfalso; omega
                      | succ nn ih393 =>
                        intro y2c v3 hj hm
                        obtain ⟨j394, j395, j396, j397, j398, j399⟩ := hj
                        have b0 : v3 19 0 = w 19 0 := j394 _ _ (by unfold kNw; omega)
                        refine e_Ok.run (t' := (121, [(0, (1, 0)), (2, (0, y2c))], [(1, 0), (0, y2c)], v3)) 2 rfl ?_
                        refine e_Ok.getr (z := 19) rfl rfl rfl rfl ((j394 0 4 (by unfold kNw; omega)).trans (Eq.trans (e_Has.eq hT rfl) (by omega))) (by omega) ?_
                        have h400 := (e_Has.get hT (c := 19) (k := 0) (lo := 0) (hi := 4) rfl (by decide))
                        refine e_Ok.getf (z := w 19 0) rfl rfl rfl rfl ((j394 19 0 (by unfold kNw; omega)).trans rfl) (by omega) ?_
                        refine e_Ok.if2 rfl (fun h401 => ?_) (fun h401 => ?_)
                        · replace h401 : (y2c : Int) ≥ w 19 0 := h401
                          refine e_Ok.run (t' := (191, [(2, (0, 0)), (0, (1, 0))], [], v3)) 2 rfl ?_
                          have hL402 : ∀ (nn : Nat) (y2d : Int) (v4 : eW), e_fr kNw w v4 ∧ e_Has kTy v4 ∧ v4 74 0 = w 74 0 + 1 ∧ kI v4 OP OD CL h1 (-1) ∧ ((w 74 1 ≤ v4 74 1 ∧ v4 74 1 ≤ w 74 1 + 398)) ∧ (0 ≤ y2d ∧ y2d ≤ 4) → 4 - y2d < nn → e_Ok 20 elay kcode eI (d + 1) 259 (191, [(0, (1, 0)), (2, (0, y2d))], [], v4) (fun r w' => r = [] ∧ e_Has kTy w' ∧ (e_fr kNw w w' ∧ w' 74 0 = w 74 0 + 1) ∧ ∃ h', h ≤ h' ∧ kI w' OP OD CL h' (-1) ∧ w 74 1 ≤ w' 74 1 ∧ w' 74 1 ≤ w 74 1 + 900) := by
                            intro nn
                            induction nn with
                            | zero => intro y2d v4 hj hm; obtain ⟨j404, j405, j406, j407, j408, j409⟩ := hj; exfalso; omega
                            | succ nn ih403 =>
                              intro y2d v4 hj hm
                              obtain ⟨j404, j405, j406, j407, j408, j409⟩ := hj
                              refine e_Ok.run (t' := (193, [(0, (1, 0)), (2, (0, y2d))], [(1, 0), (0, y2d)], v4)) 2 rfl ?_
                              refine e_Ok.getf (z := w 0 11) rfl rfl rfl rfl ((j404 0 11 (by unfold kNw; omega)).trans rfl) (by omega) ?_
                              refine e_Ok.if2 rfl (fun h410 => ?_) (fun h410 => ?_)
                              · replace h410 : (y2d : Int) ≥ w 0 11 := h410
                                have hfk := j407.fk; have hbl := j407.bel
                                refine e_Ok.jp rfl ⟨rfl, j405, fun b g1 g2 => ⟨(hfk.1 b g1 g2).1, fun i g3 g4 => ?_⟩, fun p g1 g2 => ?_⟩ (fun w411 hw411 => ?_)
                                · have g5 := ((hfk.1 b g1 g2).2 i g3 g4).1; have g6 := e_Has.get j405 (c := 19) (k := 1) (lo := 0) (hi := 32) rfl (by decide); unfold kn1; omega
                                · have g5 := (hfk.2 p g1 g2).1; unfold kn1; omega
                                have fHv : e_fr kHv v4 w411 := by rw [← hw411]; exact e_hk_fr _
                                have QH := kI.hk j407 hw411
                                have f412 : e_fr kNw w w411 := e_fr.trans j404 (e_fr.mono fHv (fun c k q => by exact nw_kHv q))
                                refine e_Ok.rets rfl rfl ?_
                                exact ⟨rfl, QH.1, ⟨f412, (fHv _ _ (by unfold kHv; omega)).trans j406⟩, h1, j317, QH, by rw [fHv _ _ (by unfold kHv; omega)]; omega, by rw [fHv _ _ (by unfold kHv; omega)]; omega⟩
                              · replace h410 : (y2d : Int) < w 0 11 := by have q : ¬ ((y2d : Int) ≥ w 0 11) := h410; omega
                                refine e_Ok.run (t' := (200, [(0, (1, 0)), (2, (0, y2d))], [(1, 0)], v4)) 1 rfl ?_
                                refine e_Ok.getr (z := 9) rfl rfl rfl rfl ((j404 0 2 (by unfold kNw; omega)).trans (Eq.trans (e_Has.eq hT rfl) (by omega))) (by omega) ?_
                                refine e_Ok.run (t' := (204, [(0, (1, 0)), (2, (0, y2d))], [(0, y2d), (1, 9)], v4)) 1 rfl ?_
                                refine e_Ok.aald (z := 17 * y2d + 86) rfl rfl rfl (by omega) ((j404 9 y2d (by unfold kNw; omega)).trans (Eq.trans (e_Has.eq hT (k9 (by omega))) (by omega))) (by omega) ?_
                                refine e_Ok.callV rfl (by omega) rfl (lA0 (a := y2d) (by omega) (by omega)) rfl rfl (c_11 (a := y2d) j405 (by omega) (j407.arm (by omega) (by omega)).1) (fun r413 w414 h415 => ?_)
                                obtain ⟨rfl, q417f, q417T, q417x⟩ := h415
                                have f418 : e_fr kNw w w414 := e_fr.trans j404 (e_fr.mono q417f (fun c k q => by exact nw_kOl (by omega) q))
                                have Q419 := kI.old j407 q417T (a := y2d) (by omega) q417f q417x
                                show e_Ok 20 elay kcode eI (d + 1) 259 (208, [(0, (1, 0)), (2, (0, y2d))], [], w414) _
                                refine e_Ok.inc (z := y2d + 1) rfl rfl (by omega) (by omega) ?_
                                show e_Ok 20 elay kcode eI (d + 1) 259 (211, [(2, (0, y2d + 1)), (0, (1, 0))], [], w414) _
                                refine e_Ok.run (t' := (191, [(2, (0, y2d + 1)), (0, (1, 0))], [], w414)) 1 rfl ?_
                                refine e_Ok.sub kAlk (e_sub_of rfl ?_) (ih403 (y2d + 1) w414 ⟨f418, q417T, ((q417f _ _ (by unfold kOl; omega)).trans j406), Q419, (by rw [q417f _ _ (by unfold kOl; omega)]; omega), by omega⟩ (by omega))
                                exact ⟨rfl, rfl, trivial⟩
                          refine e_Ok.sub kAlk (e_sub_of rfl ?_) (hL402 (4 + 1 : Int).toNat 0 v3 ⟨j394, j395, j396, j397, by omega, by omega⟩ (by omega))
                          exact ⟨rfl, rfl, trivial⟩
                        · replace h401 : (y2c : Int) < w 19 0 := by have q : ¬ ((y2c : Int) ≥ w 19 0) := h401; omega
                          refine e_Ok.run (t' := (131, [(0, (1, 0)), (2, (0, y2c))], [(1, 0)], v3)) 1 rfl ?_
                          refine e_Ok.getr (z := 19) rfl rfl rfl rfl ((j394 0 4 (by unfold kNw; omega)).trans (Eq.trans (e_Has.eq hT rfl) (by omega))) (by omega) ?_
                          refine e_Ok.run (t' := (135, [(0, (1, 0)), (2, (0, y2c))], [(0, y2c), (1, 19)], v3)) 1 rfl ?_
                          refine e_Ok.callV rfl (by omega) rfl rfl rfl rfl (c_86 j395 (by omega) j397.fk (by omega)) (fun r420 w421 h422 => ?_)
                          obtain ⟨rfl, q423f, q423T, q423x⟩ := h422
                          have f424 : e_fr kNw w w421 := e_fr.trans j394 (e_fr.mono q423f (fun c k q => by exact nw_kWy q))
                          have Q425 := kI.wy j397 q423T q423f q423x
                          have tG : w421 74 0 = w 74 0 + 1 := (q423f _ _ (by unfold kWy; omega)).trans j396
                          have vG : w421 74 1 = v3 74 1 := q423f _ _ (by unfold kWy; omega)
                          have bG : w421 19 0 = v3 19 0 := q423f _ _ (by unfold kWy; omega)
                          show e_Ok 20 elay kcode eI (d + 1) 259 (138, [(0, (1, 0)), (2, (0, y2c))], [], w421) _
                          refine e_Ok.run (t' := (139, [(0, (1, 0)), (2, (0, y2c))], [(1, 0)], w421)) 1 rfl ?_
                          refine e_Ok.getr (z := 19) rfl rfl rfl rfl ((q423f 0 4 (by unfold kWy; omega)).trans ((j394 0 4 (by unfold kNw; omega)).trans (Eq.trans (e_Has.eq hT rfl) (by omega)))) (by omega) ?_
                          refine e_Ok.getr (z := 22) rfl rfl rfl rfl ((q423f 19 4 (by unfold kWy; omega)).trans ((j394 19 4 (by unfold kNw; omega)).trans (Eq.trans (e_Has.eq hT rfl) (by omega)))) (by omega) ?_
                          refine e_Ok.run (t' := (146, [(0, (1, 0)), (2, (0, y2c))], [(0, y2c), (1, 22)], w421)) 1 rfl ?_
                          have h426 := (e_Has.get hT (c := 22) (k := y2c) (lo := (-1)) (hi := 63) rfl (by decide))
                          refine e_Ok.ald (z := w 22 y2c) rfl rfl rfl (by omega) ((q423f 22 y2c (by unfold kWy; omega)).trans ((j394 22 y2c (by unfold kNw; omega)).trans rfl)) (by omega) ?_
                          refine e_Ok.if1 rfl (fun h427 => ?_) (fun h427 => ?_)
                          · replace h427 : (w 22 y2c : Int) < 0 := h427
                            refine e_Ok.inc (z := y2c + 1) rfl rfl (by omega) (by omega) ?_
                            show e_Ok 20 elay kcode eI (d + 1) 259 (186, [(2, (0, y2c + 1)), (0, (1, 0))], [], w421) _
                            refine e_Ok.run (t' := (119, [(2, (0, y2c + 1)), (0, (1, 0))], [], w421)) 1 rfl ?_
                            refine e_Ok.sub kAlk (e_sub_of rfl ?_) (ih393 (y2c + 1) w421 ⟨f424, q423T, tG, Q425, (by omega), by omega⟩ (by omega))
                            exact ⟨rfl, rfl, trivial⟩
                          · replace h427 : (w 22 y2c : Int) ≥ 0 := by have q : ¬ ((w 22 y2c : Int) < 0) := h427; omega
                            refine e_Ok.run (t' := (151, [(0, (1, 0)), (2, (0, y2c))], [(1, 0)], w421)) 1 rfl ?_
                            refine e_Ok.getr (z := 10) rfl rfl rfl rfl ((q423f 0 3 (by unfold kWy; omega)).trans ((j394 0 3 (by unfold kNw; omega)).trans (Eq.trans (e_Has.eq hT rfl) (by omega)))) (by omega) ?_
                            refine e_Ok.run (t' := (155, [(0, (1, 0)), (2, (0, y2c))], [(1, 0), (1, 10)], w421)) 1 rfl ?_
                            refine e_Ok.getr (z := 19) rfl rfl rfl rfl ((q423f 0 4 (by unfold kWy; omega)).trans ((j394 0 4 (by unfold kNw; omega)).trans (Eq.trans (e_Has.eq hT rfl) (by omega)))) (by omega) ?_
                            refine e_Ok.getr (z := 22) rfl rfl rfl rfl ((q423f 19 4 (by unfold kWy; omega)).trans ((j394 19 4 (by unfold kNw; omega)).trans (Eq.trans (e_Has.eq hT rfl) (by omega)))) (by omega) ?_
                            refine e_Ok.run (t' := (162, [(0, (1, 0)), (2, (0, y2c))], [(0, y2c), (1, 22), (1, 10)], w421)) 1 rfl ?_
                            refine e_Ok.ald (z := w 22 y2c) rfl rfl rfl (by omega) ((q423f 22 y2c (by unfold kWy; omega)).trans ((j394 22 y2c (by unfold kNw; omega)).trans rfl)) (by omega) ?_
                            refine e_Ok.run (t' := (164, [(0, (1, 0)), (2, (0, y2c))], [(1, 0), (0, w 22 y2c), (1, 10)], w421)) 1 rfl ?_
                            refine e_Ok.getr (z := 19) rfl rfl rfl rfl ((q423f 0 4 (by unfold kWy; omega)).trans ((j394 0 4 (by unfold kNw; omega)).trans (Eq.trans (e_Has.eq hT rfl) (by omega)))) (by omega) ?_
                            refine e_Ok.run (t' := (168, [(0, (1, 0)), (2, (0, y2c))], [(0, y2c), (1, 19), (0, w 22 y2c), (1, 10)], w421)) 1 rfl ?_
                            refine e_Ok.callV rfl (by omega) rfl rfl rfl rfl (c_87 (by omega) q423T (by omega) Q425.fk (by omega)) (fun r428 w429 h430 => ?_)
                            obtain ⟨z432, rfl, rfl, q431r⟩ := h430
                            show e_Ok 20 elay kcode eI (d + 1) 259 (171, [(0, (1, 0)), (2, (0, y2c))], [(0, z432), (0, w 22 y2c), (1, 10)], w421) _
                            have hJ435 : ∀ m434 : Int, 0 ≤ m434 ∧ m434 ≤ 1 → e_Ok 20 elay kcode eI (d + 1) 259 (179, [(0, (1, 0)), (2, (0, y2c))], [(0, m434), (0, w 22 y2c), (1, 10)], w421) (fun r w' => r = [] ∧ e_Has kTy w' ∧ (e_fr kNw w w' ∧ w' 74 0 = w 74 0 + 1) ∧ ∃ h', h ≤ h' ∧ kI w' OP OD CL h' (-1) ∧ w 74 1 ≤ w' 74 1 ∧ w' 74 1 ≤ w 74 1 + 900) := by
                              intro m434 m434r
                              refine e_Ok.callV rfl (by omega) rfl rfl rfl rfl (c_113 (by omega) q423T (by omega) (by omega) Q425.pf) (fun r436 w437 h438 => ?_)
                              obtain ⟨z440, rfl, q439f, q439T, q439r, q439x⟩ := h438
                              have f441 : e_fr kNw w w437 := e_fr.trans f424 (e_fr.mono q439f (fun c k q => by exact nw_kPo q))
                              have Q442 := kI.po Q425 q439T (e_fr.mono q439f (fun c k g => ph_kPo g)) q439x
                              show e_Ok 20 elay kcode eI (d + 1) 259 (182, [(0, (1, 0)), (2, (0, y2c))], [(0, z440)], w437) _
                              refine e_Ok.run (t' := (183, [(0, (1, 0)), (2, (0, y2c))], [], w437)) 1 rfl ?_
                              refine e_Ok.inc (z := y2c + 1) rfl rfl (by omega) (by omega) ?_
                              show e_Ok 20 elay kcode eI (d + 1) 259 (186, [(2, (0, y2c + 1)), (0, (1, 0))], [], w437) _
                              refine e_Ok.run (t' := (119, [(2, (0, y2c + 1)), (0, (1, 0))], [], w437)) 1 rfl ?_
                              refine e_Ok.sub kAlk (e_sub_of rfl ?_) (ih393 (y2c + 1) w437 ⟨f441, q439T, ((q439f _ _ (by unfold kPo; omega)).trans tG), Q442, (by rw [q439f _ _ (by unfold kPo; omega)]; omega), by omega⟩ (by omega))
                              exact ⟨rfl, rfl, trivial⟩
                            refine e_Ok.if1 rfl (fun h433 => ?_) (fun h433 => ?_)
                            · exact e_Ok.run 1 rfl (hJ435 0 (by omega))
                            · exact e_Ok.run 2 rfl (hJ435 1 (by omega))
                    refine e_Ok.sub kAlk (e_sub_of rfl ?_) (hL392 (4 + 1 : Int).toNat 0 w388 ⟨f391, q390T, (q390f.2.trans j326), q390x.1, (by have g := q390x.2; omega), by omega⟩ (by omega))
                    exact ⟨rfl, rfl, trivial⟩
                · replace h333 : (y2b : Int) < w 0 11 := by have q : ¬ ((y2b : Int) ≥ w 0 11) := h333; omega
                  refine e_Ok.run (t' := (94, [(0, (1, 0)), (2, (0, y2b))], [(0, y2b), (1, 0)], v2)) 2 rfl ?_
                  refine e_Ok.callV rfl (by omega) rfl rfl rfl rfl (c_260 (by omega) (a := y2b) j325 (by omega) j327 (by omega)) (fun r443 w444 h445 => ?_)
                  obtain ⟨rfl, q446T, q446f, q446x⟩ := h445
                  have f447 : e_fr kNw w w444 := e_fr.trans j324 (e_fr.mono q446f.1 (fun c k q => by exact q))
                  show e_Ok 20 elay kcode eI (d + 1) 259 (97, [(0, (1, 0)), (2, (0, y2b))], [], w444) _
                  refine e_Ok.inc (z := y2b + 1) rfl rfl (by omega) (by omega) ?_
                  show e_Ok 20 elay kcode eI (d + 1) 259 (100, [(2, (0, y2b + 1)), (0, (1, 0))], [], w444) _
                  refine e_Ok.run (t' := (84, [(2, (0, y2b + 1)), (0, (1, 0))], [], w444)) 1 rfl ?_
                  refine e_Ok.sub kAlk (e_sub_of rfl ?_) (ih323 (y2b + 1) w444 ⟨f447, q446T, (q446f.2.trans j326), q446x.1, (by have g := q446x.2; omega), by omega⟩ (by omega))
                  exact ⟨rfl, rfl, trivial⟩
            refine e_Ok.sub kAlk (e_sub_of rfl ?_) (hL322 (4 + 1 : Int).toNat 0 v1 ⟨j314, j315, j316, j318, by omega, by omega⟩ (by omega))
            exact ⟨rfl, rfl, trivial⟩
          · replace h321 : (y2 : Int) < 16 := by have q : ¬ ((y2 : Int) ≥ 16) := h321; omega
            refine e_Ok.run (t' := (50, [(0, (1, 0)), (2, (0, y2))], [(1, 0)], v1)) 1 rfl ?_
            refine e_Ok.getr (z := 8) rfl rfl rfl rfl ((j314 0 1 (by unfold kNw; omega)).trans (Eq.trans (e_Has.eq hT rfl) (by omega))) (by omega) ?_
            refine e_Ok.run (t' := (54, [(0, (1, 0)), (2, (0, y2))], [(0, y2), (1, 8)], v1)) 1 rfl ?_
            refine e_Ok.callV rfl (by omega) rfl rfl rfl rfl (c_42 (by omega) j315 (by omega) j318) (fun r448 w449 h450 => ?_)
            obtain ⟨z451, rfl, rfl, q452r, q452x⟩ := h450
            show e_Ok 20 elay kcode eI (d + 1) 259 (57, [(0, (1, 0)), (2, (0, y2))], [(0, z451)], v1) _
            refine e_Ok.if1 rfl (fun h453 => ?_) (fun h453 => ?_)
            · replace h453 : (z451 : Int) = 0 := h453
              refine e_Ok.inc (z := y2 + 1) rfl rfl (by omega) (by omega) ?_
              show e_Ok 20 elay kcode eI (d + 1) 259 (79, [(2, (0, y2 + 1)), (0, (1, 0))], [], v1) _
              refine e_Ok.run (t' := (43, [(2, (0, y2 + 1)), (0, (1, 0))], [], v1)) 1 rfl ?_
              refine e_Ok.sub kAlk (e_sub_of rfl ?_) (ih313 (y2 + 1) v1 h1 ⟨j314, j315, j316, j317, j318, (by omega), by omega⟩ (by omega))
              exact ⟨rfl, rfl, trivial⟩
            · replace h453 : (z451 : Int) ≠ 0 := by have q : ¬ ((z451 : Int) = 0) := h453; omega
              refine e_Ok.run (t' := (61, [(0, (1, 0)), (2, (0, y2))], [(1, 0)], v1)) 1 rfl ?_
              refine e_Ok.getr (z := 8) rfl rfl rfl rfl ((j314 0 1 (by unfold kNw; omega)).trans (Eq.trans (e_Has.eq hT rfl) (by omega))) (by omega) ?_
              refine e_Ok.run (t' := (65, [(0, (1, 0)), (2, (0, y2))], [(1, 0), (1, 8)], v1)) 1 rfl ?_
              refine e_Ok.getr (z := 8) rfl rfl rfl rfl ((j314 0 1 (by unfold kNw; omega)).trans (Eq.trans (e_Has.eq hT rfl) (by omega))) (by omega) ?_
              refine e_Ok.getr (z := 82) rfl rfl rfl rfl ((j314 8 4 (by unfold kNw; omega)).trans (Eq.trans (e_Has.eq hT rfl) (by omega))) (by omega) ?_
              refine e_Ok.run (t' := (72, [(0, (1, 0)), (2, (0, y2))], [(0, y2), (1, 82), (1, 8)], v1)) 1 rfl ?_
              refine e_Ok.aald (z := 6 * y2 + 154) rfl rfl rfl (by omega) ((j314 82 y2 (by unfold kNw; omega)).trans (Eq.trans (e_Has.eq hT (k82 (by omega))) (by omega))) (by omega) ?_
              have hact := q452x (by omega)
              have tq := j318.ts (t := y2) (by omega) (by omega)
              have ta := tq.1.1 (by omega) (by omega)
              have tb := e_Has.get j315 (c := 6 * y2 + 154) (k := 2) (lo := -1) (hi := 3) (kT_2 (t := y2) rfl (by omega)) (by decide)
              refine e_Ok.callV rfl (by omega) rfl rfl rfl rfl (c_43 (by omega) j315 (by omega) (kI.weak j318 (by decide)) (a := v1 (6 * y2 + 154) 2) (by omega) rfl rfl (by omega) hact ((tq.2 hact.1 hact.2).2 (by omega)) (by omega)) (fun r454 w455 h456 => ?_)
              obtain ⟨rfl, q457T, q457f, q457h, q457x⟩ := h456
              have f458 : e_fr kNw w w455 := e_fr.trans j314 (e_fr.mono q457f.1 (fun c k q => by exact q))
              show e_Ok 20 elay kcode eI (d + 1) 259 (76, [(0, (1, 0)), (2, (0, y2))], [], w455) _
              refine e_Ok.inc (z := y2 + 1) rfl rfl (by omega) (by omega) ?_
              show e_Ok 20 elay kcode eI (d + 1) 259 (79, [(2, (0, y2 + 1)), (0, (1, 0))], [], w455) _
              refine e_Ok.run (t' := (43, [(2, (0, y2 + 1)), (0, (1, 0))], [], w455)) 1 rfl ?_
              refine e_Ok.sub kAlk (e_sub_of rfl ?_) (ih313 (y2 + 1) w455 q457h ⟨f458, q457T, (q457f.2.trans j316), (Int.le_trans j317 q457x.1), q457x.2.1, (by have g := q457x.2.2; omega), by omega⟩ (by omega))
              exact ⟨rfl, rfl, trivial⟩
      refine e_Ok.sub kAlk (e_sub_of rfl ?_) (hL312 (16 + 1 : Int).toNat 0 w308 h ⟨f311, q310T, (q310f.2.trans tB), Int.le_refl h, q310x.1, (by have g := q310x.2.2; omega), by omega⟩ (by omega))
      exact ⟨rfl, rfl, trivial⟩
end
