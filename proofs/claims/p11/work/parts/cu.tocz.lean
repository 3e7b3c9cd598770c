-- part cu
section
noncomputable section
/-! the class: a tick -/
section Kt
variable {w w' : eW} {OP OD CL : Int → Int → Int} {h t0 : Int}
/-- parts went on along a belt -/
theorem kI.wy (q : kI w OP OD CL h t0) (hT : e_Has kTy w') (f : e_fr kWy w w') (hk : ∀ p, kn1 (w 37 p) → kn1 (w' 37 p)) : kI w' OP OD CL h t0 := by
  have hB := q.bel
  have e : ∀ c k, c ≠ 37 → w' c k = w c k := fun c k g => f c k g
  refine kI.fl q hT (a := 0) (by omega) (f.mono (fun c k g => by unfold kWy at g; exact Or.inl (by omega))) ⟨fun b g1 g2 => ?_, fun p g1 g2 => ?_⟩ (fun b g1 g2 => ?_)
  · rw [e 19 0 (by decide)] at g2
    have qb := q.fk.1 b g1 g2
    unfold fO at qb ⊢
    rw [e 35 b (by decide)]
    refine ⟨qb.1, fun i g3 g4 => ?_⟩
    rw [e (b + 31) i (by omega), e 19 1 (by decide), e 36 _ (by decide)]
    exact qb.2 i g3 g4
  · rw [e 19 1 (by decide)] at g2
    have qp := q.fk.2 p g1 g2
    unfold fP at qp ⊢
    rw [e 36 p (by decide), e 39 p (by decide), e 40 p (by decide), e 19 0 (by decide)]
    exact ⟨qp.1, fun g => ⟨(qp.2.1 g).1, hk p (qp.2.1 g).2⟩, qp.2.2⟩
  · exact ((q.2.1 b g1 g2).2.2.2.2.1).eq (fun c k g => e c k (by omega))
/-- an arm keeps its points -/
theorem kI.old {a : Int} (q : kI w OP OD CL h t0) (hT : e_Has kTy w') (ha : 0 ≤ a ∧ a ≤ 3) (f : e_fr (kOl a) w w') (hO : oK w' a) : kI w' OP OD CL h t0 := by
  have hn := (kn_joints q.1 ha).2
  have e : ∀ c k, c ≠ 17 * a + 90 → c ≠ 17 * a + 91 → w' c k = w c k := fun c k g1 g2 => f c k (by unfold kOl; omega)
  obtain ⟨p1, p2, p3, p4, p5, p6⟩ := q.2.1 a ha.1 ha.2
  refine kI.ar q hT ha (f.mono (fun c k g => by unfold kOl at g; exact Or.inr (Or.inr (Or.inr (Or.inr (Or.inl (by omega))))))) (q.lgk.fr f (by unfold kOl; omega) (fun k => by unfold kOl; omega)) ⟨p1.eq (fun c k g => e c k (by omega) (by omega)), hO, ?_, p4.eq hn (fun c k g => e c k (by omega) (by omega)), p5.eq (fun c k g => e c k (by omega) (by omega)), p6.eq hn (fun c k g => e c k (by omega) (by omega))⟩ (fun g g9 => by rw [e _ _ (by omega) (by omega)]; exact q.pw g a ha.1 ha.2 g9)
  rw [e (17 * a + 86) 8 (by omega) (by omega), e (17 * a + 86) 11 (by omega) (by omega)]
  exact p3.eq hn (fun c k g1 g2 g3 g4 => e c k (by omega) (by omega))
theorem hm_kCi {c k : Int} (g : kCi c k) : kHm c k := by
  unfold kCi at g
  unfold kHm
  have h1 : 76 ≤ c ∧ c ≤ 81 := by omega
  simp only [h1.1, h1.2, true_and, true_or, or_true]
end Kt
theorem no_cu_0 {k : Int} : ¬ kNw 0 k := by unfold kNw; omega
theorem no_cu_1 {k : Int} : ¬ kNw 19 k := by unfold kNw; omega
theorem no_cu_2 {k : Int} : ¬ kNw 9 k := by unfold kNw; omega
theorem no_cu_3 {k : Int} : ¬ kWy 0 k := by unfold kWy; omega
theorem no_cu_4 {k : Int} : ¬ kWy 19 k := by unfold kWy; omega
theorem no_cu_5 {k : Int} : ¬ kWy 22 k := by unfold kWy; omega
theorem no_cu_6 {k : Int} : ¬ kNw 22 k := by unfold kNw; omega
theorem no_cu_7 : ¬ kNw 8 4 := by unfold kNw; omega
theorem no_cu_8 {k : Int} : ¬ kNw 82 k := by unfold kNw; omega
theorem no_cu_9 {k : Int} : ¬ kCi 0 k := by unfold kCi; omega
theorem no_cu_10 {k : Int} : ¬ kCi 74 k := by unfold kCi; omega
set_option maxHeartbeats 4000000 in
theorem c_259 {d : Nat} (hd : 29 ≤ d) {w : eW} (hT : e_Has kTy w) {OP OD CL : Int → Int → Int} {h : Int} (q : kI w OP OD CL h (-1)) (h0 : 0 ≤ h) (ht : w 74 0 < 6000) (he : w 74 1 ≤ 1900000000) : e_Ok 20 elay kcode eI d 259 (0, [(0, (1, 0))], [], w) (fun r w' => r = [] ∧ e_Has kTy w' ∧ (e_fr kNw w w' ∧ w' 74 0 = w 74 0 + 1) ∧ ∃ h', h ≤ h' ∧ kI w' OP OD CL h' (-1) ∧ w 74 1 ≤ w' 74 1 ∧ w' 74 1 ≤ w 74 1 + 900 ∧ aQ w w') := by
  obtain ⟨d, rfl⟩ : ∃ e, d = e + 1 := ⟨d - 1, by omega⟩
  have h74 := e_Has.get hT (c := 74) (k := 1) (lo := 0) (hi := 2147483647) (kt_o rfl) (by decide)
  have h740 := e_Has.get hT (c := 74) (k := 0) (lo := 0) (hi := 6000) (kt_o rfl) (by decide)
  refine e_Ok.ps1 (x := (1, 0)) (q := 1) 1 rfl ?_
  refine e_Ok.getr (z := 74) rfl (el_o rfl) rfl rfl (e_Has.eq hT (kt_o rfl)) ⟨by decide, by decide⟩ ?_
  refine e_Ok.ps1 (x := (1, 74)) (q := 5) 1 rfl ?_
  refine e_Ok.getf (z := w 74 0) rfl (el_o rfl) rfl rfl rfl (by omega) ?_
  refine e_Ok.ps1 (x := (0, 1)) (q := 9) 1 rfl ?_
  refine e_Ok.add (z := w 74 0 + 1) rfl rfl (by omega) ?_
  refine e_Ok.putf rfl (el_o rfl) rfl rfl ?_
  generalize hw1 : e_up w 74 0 (w 74 0 + 1) = w1
  have hT3 : e_Has kTy w1 := e_Has.upr hT hw1 (kt_o rfl) (by omega)
  have A4 : aQ w w1 := aQ.trans (aQ.refl w) (aQ.q (e_fr.up (e_fr.refl _) hw1 (by unfold kNq; omega)) hT hT3)
  have QA := kI.hu q hT3 hw1 (hm_74 (by omega))
  have tA : w1 74 0 = w 74 0 + 1 := (e_ue hw1)
  have vA : w1 74 1 = w 74 1 := (e_uq hw1 (Or.inr (by decide)) rfl)
  refine e_Ok.ps1 (x := (1, 0)) (q := 14) 1 rfl ?_
  refine e_Ok.getr (z := 74) rfl (el_o rfl) rfl rfl (e_uq hw1 (Or.inl (by decide)) (e_Has.eq hT (kt_o rfl))) ⟨by decide, by decide⟩ ?_
  refine e_Ok.callV rfl (e_dq hd rfl) rfl rfl rfl rfl (c_32 (e_dq hd rfl) hT3) (fun r5 w6 h7 => ?_)
  obtain ⟨z8, rfl, q9f, q9T, q9r⟩ := h7
  have f10 : e_fr kNw w w6 := e_fr.trans (show e_fr kNw w w1 from e_fr.up (e_fr.refl w) hw1 (by first | exact Or.inl ⟨rfl, (by decide)⟩ | (unfold kNw; omega))) (e_fr.mono q9f (fun c k q => by exact nw_kCi q))
  have A11 : aQ w w6 := aQ.trans A4 (aQ.q (e_fr.mono q9f (fun c k q => nq_kCi q)) hT3 q9T)
  have Q12 := kI.hm QA q9T (e_fr.mono q9f (fun c k g => hm_kCi g))
  have tB : w6 74 0 = w 74 0 + 1 := (q9f _ _ (by unfold kCi; omega)).trans tA
  have vB : w6 74 1 = w 74 1 := (q9f _ _ (by unfold kCi; omega)).trans vA
  refine e_Ok.nrm (q := 20) (st' := [(0, z8)]) rfl rfl ?_
  refine e_Ok.run (t' := (21, [(1, (0, z8)), (0, (1, 0))], [], w6)) 1 rfl ?_
  have hL13 : ∀ (nn : Nat) (y2 : Int) (v1 : eW) (h1 : Int), e_fr kNw w v1 ∧ e_Has kTy v1 ∧ v1 74 0 = w 74 0 + 1 ∧ h ≤ h1 ∧ kI v1 OP OD CL h1 (-1) ∧ ((w 74 1 ≤ v1 74 1 ∧ v1 74 1 ≤ w 74 1 + 5 + 24 * y2)) ∧ (0 ≤ y2 ∧ y2 ≤ 16) ∧ aQ w v1 → 16 - y2 < nn → e_Ok 20 elay kcode eI (d + 1) 259 (43, [(0, (1, 0)), (2, (0, y2))], [], v1) (fun r w' => r = [] ∧ e_Has kTy w' ∧ (e_fr kNw w w' ∧ w' 74 0 = w 74 0 + 1) ∧ ∃ h', h ≤ h' ∧ kI w' OP OD CL h' (-1) ∧ w 74 1 ≤ w' 74 1 ∧ w' 74 1 ≤ w 74 1 + 900 ∧ aQ w w') := by
    intro nn
    induction nn with
    | zero => intro y2 v1 h1 hj hm; obtain ⟨j15, j16, j17, j18, j19, j20, j21, j22⟩ := hj; exfalso; omega
    | succ nn ih14 =>
      intro y2 v1 h1 hj hm
      obtain ⟨j15, j16, j17, j18, j19, j20, j21, j22⟩ := hj
      refine e_Ok.run (t' := (46, [(0, (1, 0)), (2, (0, y2))], [(0, 16), (0, y2)], v1)) 2 rfl ?_
      refine e_Ok.if2 rfl (fun h23 => ?_) (fun h23 => ?_)
      · replace h23 : (y2 : Int) ≥ 16 := h23
        refine e_Ok.run (t' := (84, [(2, (0, 0)), (0, (1, 0))], [], v1)) 2 rfl ?_
        have hL24 : ∀ (nn : Nat) (y2b : Int) (v2 : eW), e_fr kNw w v2 ∧ e_Has kTy v2 ∧ v2 74 0 = w 74 0 + 1 ∧ kI v2 OP OD CL h1 (-1) ∧ ((w 74 1 ≤ v2 74 1 ∧ v2 74 1 ≤ w 74 1 + 389 + y2b)) ∧ (0 ≤ y2b ∧ y2b ≤ 4) ∧ aQ w v2 → 4 - y2b < nn → e_Ok 20 elay kcode eI (d + 1) 259 (84, [(0, (1, 0)), (2, (0, y2b))], [], v2) (fun r w' => r = [] ∧ e_Has kTy w' ∧ (e_fr kNw w w' ∧ w' 74 0 = w 74 0 + 1) ∧ ∃ h', h ≤ h' ∧ kI w' OP OD CL h' (-1) ∧ w 74 1 ≤ w' 74 1 ∧ w' 74 1 ≤ w 74 1 + 900 ∧ aQ w w') := by
          intro nn
          induction nn with
          | zero => intro y2b v2 hj hm; obtain ⟨j26, j27, j28, j29, j30, j31, j32⟩ := hj; exfalso; omega
          | succ nn ih25 =>
            intro y2b v2 hj hm
            obtain ⟨j26, j27, j28, j29, j30, j31, j32⟩ := hj
            refine e_Ok.run (t' := (86, [(0, (1, 0)), (2, (0, y2b))], [(1, 0), (0, y2b)], v2)) 2 rfl ?_
            have h33 := (e_Has.get hT (c := 0) (k := 11) (lo := 0) (hi := 4) (kt_o rfl) (by decide))
            refine e_Ok.getf (z := w 0 11) rfl (el_o rfl) rfl rfl ((j26 0 11 no_cu_0).trans rfl) (e_bq h33 (by decide) (by decide)) ?_
            refine e_Ok.if2 rfl (fun h34 => ?_) (fun h34 => ?_)
            · replace h34 : (y2b : Int) ≥ w 0 11 := h34
              have hL35 : ∀ (nn : Nat) (y2c : Int) (v3 : eW), e_fr kNw w v3 ∧ e_Has kTy v3 ∧ v3 74 0 = w 74 0 + 1 ∧ kI v3 OP OD CL h1 (-1) ∧ ((w 74 1 ≤ v3 74 1 ∧ v3 74 1 ≤ w 74 1 + 398)) ∧ (0 ≤ y2c ∧ y2c ≤ 4) ∧ aQ w v3 → 4 - y2c < nn → e_Ok 20 elay kcode eI (d + 1) 259 (119, [(0, (1, 0)), (2, (0, y2c))], [], v3) (fun r w' => r = [] ∧ e_Has kTy w' ∧ (e_fr kNw w w' ∧ w' 74 0 = w 74 0 + 1) ∧ ∃ h', h ≤ h' ∧ kI w' OP OD CL h' (-1) ∧ w 74 1 ≤ w' 74 1 ∧ w' 74 1 ≤ w 74 1 + 900 ∧ aQ w w') := by
                intro nn
                induction nn with
                | zero => intro y2c v3 hj hm; obtain ⟨j37, j38, j40, j41, j42, j43, j44⟩ := hj; exfalso; omega
                | succ nn ih36 =>
                  intro y2c v3 hj hm
                  obtain ⟨j37, j38, j40, j41, j42, j43, j44⟩ := hj
                  have b0 : v3 19 0 = w 19 0 := j37 _ _ (by unfold kNw; omega)
                  refine e_Ok.run (t' := (121, [(0, (1, 0)), (2, (0, y2c))], [(1, 0), (0, y2c)], v3)) 2 rfl ?_
                  refine e_Ok.getr (z := 19) rfl (el_o rfl) rfl rfl ((j37 0 4 no_cu_0).trans (e_Has.eq hT (kt_o rfl))) ⟨by decide, by decide⟩ ?_
                  have h45 := (e_Has.get hT (c := 19) (k := 0) (lo := 0) (hi := 4) (kt_o rfl) (by decide))
                  refine e_Ok.getf (z := w 19 0) rfl (el_o rfl) rfl rfl ((j37 19 0 no_cu_1).trans rfl) (e_bq h45 (by decide) (by decide)) ?_
                  refine e_Ok.if2 rfl (fun h46 => ?_) (fun h46 => ?_)
                  · replace h46 : (y2c : Int) ≥ w 19 0 := h46
                    refine e_Ok.run (t' := (191, [(2, (0, 0)), (0, (1, 0))], [], v3)) 2 rfl ?_
                    have hL47 : ∀ (nn : Nat) (y2d : Int) (v4 : eW), e_fr kNw w v4 ∧ e_Has kTy v4 ∧ v4 74 0 = w 74 0 + 1 ∧ kI v4 OP OD CL h1 (-1) ∧ ((w 74 1 ≤ v4 74 1 ∧ v4 74 1 ≤ w 74 1 + 398)) ∧ (0 ≤ y2d ∧ y2d ≤ 4) ∧ aQ w v4 → 4 - y2d < nn → e_Ok 20 elay kcode eI (d + 1) 259 (191, [(0, (1, 0)), (2, (0, y2d))], [], v4) (fun r w' => r = [] ∧ e_Has kTy w' ∧ (e_fr kNw w w' ∧ w' 74 0 = w 74 0 + 1) ∧ ∃ h', h ≤ h' ∧ kI w' OP OD CL h' (-1) ∧ w 74 1 ≤ w' 74 1 ∧ w' 74 1 ≤ w 74 1 + 900 ∧ aQ w w') := by
                      intro nn
                      induction nn with
                      | zero => intro y2d v4 hj hm; obtain ⟨j49, j50, j51, j52, j53, j54, j55⟩ := hj; exfalso; omega
                      | succ nn ih48 =>
                        intro y2d v4 hj hm
                        obtain ⟨j49, j50, j51, j52, j53, j54, j55⟩ := hj
                        refine e_Ok.run (t' := (193, [(0, (1, 0)), (2, (0, y2d))], [(1, 0), (0, y2d)], v4)) 2 rfl ?_
                        refine e_Ok.getf (z := w 0 11) rfl (el_o rfl) rfl rfl ((j49 0 11 no_cu_0).trans rfl) (by omega) ?_
                        refine e_Ok.if2 rfl (fun h56 => ?_) (fun h56 => ?_)
                        · replace h56 : (y2d : Int) ≥ w 0 11 := h56
                          have hfk := j52.fk; have hbl := j52.bel
                          refine e_Ok.jp rfl ⟨rfl, j50, fun b g1 g2 => ⟨(hfk.1 b g1 g2).1, fun i g3 g4 => ?_⟩, fun p g1 g2 => ?_⟩ (fun w57 hw57 => ?_)
                          · have g5 := ((hfk.1 b g1 g2).2 i g3 g4).1; have g6 := e_Has.get j50 (c := 19) (k := 1) (lo := 0) (hi := 32) rfl (by decide); unfold kn1; omega
                          · have g5 := (hfk.2 p g1 g2).1; unfold kn1; omega
                          have fHv : e_fr kHv v4 w57 := by rw [← hw57]; exact e_hk_fr _
                          have QH := kI.hk j52 hw57
                          have A59 : aQ w w57 := aQ.trans j55 (aQ.q (e_fr.mono fHv (fun c k q => nq_kHv q)) j50 QH.1)
                          refine e_Ok.rets rfl rfl ?_
                          exact ⟨rfl, QH.1, ⟨(show e_fr kNw w w57 from e_fr.trans j49 (e_fr.mono fHv (fun c k q => by exact nw_kHv q))), (fHv _ _ (by unfold kHv; omega)).trans j51⟩, h1, j18, QH, by rw [fHv _ _ (by unfold kHv; omega)]; omega, by rw [fHv _ _ (by unfold kHv; omega)]; omega, A59⟩
                        · replace h56 : (y2d : Int) < w 0 11 := Int.not_le.mp (show ¬ ((y2d : Int) ≥ w 0 11) from h56)
                          refine e_Ok.ps1 (x := (1, 0)) (q := 200) 1 rfl ?_
                          refine e_Ok.getr (z := 9) rfl (el_o rfl) rfl rfl ((j49 0 2 no_cu_0).trans (e_Has.eq hT (kt_o rfl))) ⟨by decide, by decide⟩ ?_
                          refine e_Ok.ps1 (x := (0, y2d)) (q := 204) 1 rfl ?_
                          refine e_Ok.aald (z := 17 * y2d + 86) rfl (el_o rfl) rfl (by omega) ((j49 9 y2d no_cu_2).trans (Eq.trans (e_Has.eq hT (k9 (by omega))) (by omega))) (by omega) ?_
                          refine e_Ok.callV rfl (e_dq hd rfl) rfl (lA0 (a := y2d) (by omega) (by omega)) rfl rfl (c_11 (a := y2d) j50 (by omega) (j52.arm (by omega) (by omega)).1) (fun r60 w61 h62 => ?_)
                          obtain ⟨rfl, q63f, q63T, q63x⟩ := h62
                          have A65 : aQ w w61 := aQ.trans j55 (aQ.q (e_fr.mono q63f (fun c k q => nq_kOl (by omega) q)) j50 q63T)
                          have Q66 := kI.old j52 q63T (a := y2d) (by omega) q63f q63x
                          refine e_Ok.nrm (q := 208) (st' := []) rfl rfl ?_
                          refine e_Ok.inc (z := y2d + 1) rfl rfl (by first | with_reducible rfl | omega) (by omega) ?_
                          show e_Ok 20 elay kcode eI (d + 1) 259 (211, [(2, (0, y2d + 1)), (0, (1, 0))], [], w61) _
                          refine e_Ok.ps0 (q := 191) 1 rfl ?_
                          refine e_Ok.sub kAlk (e_sub_of rfl ?_) (ih48 (y2d + 1) w61 ⟨(show e_fr kNw w w61 from e_fr.trans j49 (e_fr.mono q63f (fun c k q => by exact nw_kOl (by omega) q))), q63T, ((q63f _ _ (by unfold kOl; omega)).trans j51), Q66, (by rw [q63f _ _ (by unfold kOl; omega)]; omega), by omega, A65⟩ (by omega))
                          exact ⟨rfl, rfl, trivial⟩
                    refine e_Ok.sub kAlk (e_sub_of rfl ?_) (hL47 (4 + 1 : Int).toNat 0 v3 ⟨j37, j38, j40, j41, by omega, by omega, j44⟩ (by omega))
                    exact ⟨rfl, rfl, trivial⟩
                  · replace h46 : (y2c : Int) < w 19 0 := Int.not_le.mp (show ¬ ((y2c : Int) ≥ w 19 0) from h46)
                    refine e_Ok.ps1 (x := (1, 0)) (q := 131) 1 rfl ?_
                    refine e_Ok.getr (z := 19) rfl (el_o rfl) rfl rfl ((j37 0 4 no_cu_0).trans (e_Has.eq hT (kt_o rfl))) ⟨by decide, by decide⟩ ?_
                    refine e_Ok.ps1 (x := (0, y2c)) (q := 135) 1 rfl ?_
                    refine e_Ok.callV rfl (e_dq hd rfl) rfl rfl rfl rfl (c_86 j38 (by omega) j41.fk (by omega)) (fun r67 w68 h69 => ?_)
                    obtain ⟨rfl, q70f, q70T, q70x⟩ := h69
                    have f71 : e_fr kNw w w68 := e_fr.trans j37 (e_fr.mono q70f (fun c k q => by exact nw_kWy q))
                    have A72 : aQ w w68 := aQ.trans j44 (aQ.q (e_fr.mono q70f (fun c k q => nq_kWy q)) j38 q70T)
                    have Q73 := kI.wy j41 q70T q70f q70x
                    have tG : w68 74 0 = w 74 0 + 1 := (q70f _ _ (by unfold kWy; omega)).trans j40
                    have vG : w68 74 1 = v3 74 1 := q70f _ _ (by unfold kWy; omega)
                    have bG : w68 19 0 = v3 19 0 := q70f _ _ (by unfold kWy; omega)
                    refine e_Ok.nrm (q := 138) (st' := []) rfl rfl ?_
                    refine e_Ok.ps1 (x := (1, 0)) (q := 139) 1 rfl ?_
                    refine e_Ok.getr (z := 19) rfl (el_o rfl) rfl rfl ((q70f 0 4 no_cu_3).trans ((j37 0 4 no_cu_0).trans (e_Has.eq hT (kt_o rfl)))) ⟨by decide, by decide⟩ ?_
                    refine e_Ok.getr (z := 22) rfl (el_o rfl) rfl rfl ((q70f 19 4 no_cu_4).trans ((j37 19 4 no_cu_1).trans (e_Has.eq hT (kt_o rfl)))) ⟨by decide, by decide⟩ ?_
                    refine e_Ok.ps1 (x := (0, y2c)) (q := 146) 1 rfl ?_
                    have h74 := (e_Has.get hT (c := 22) (k := y2c) (lo := (-1)) (hi := 63) (kt_o rfl) (by decide))
                    refine e_Ok.ald (z := w 22 y2c) rfl (el_o rfl) rfl (by omega) ((q70f 22 y2c no_cu_5).trans ((j37 22 y2c no_cu_6).trans rfl)) (e_bq h74 (by decide) (by decide)) ?_
                    refine e_Ok.if1 rfl (fun h75 => ?_) (fun h75 => ?_)
                    · replace h75 : (w 22 y2c : Int) < 0 := h75
                      refine e_Ok.inc (z := y2c + 1) rfl rfl (by first | with_reducible rfl | omega) (by omega) ?_
                      show e_Ok 20 elay kcode eI (d + 1) 259 (186, [(2, (0, y2c + 1)), (0, (1, 0))], [], w68) _
                      refine e_Ok.ps0 (q := 119) 1 rfl ?_
                      refine e_Ok.sub kAlk (e_sub_of rfl ?_) (ih36 (y2c + 1) w68 ⟨f71, q70T, tG, Q73, (by omega), by omega, A72⟩ (by omega))
                      exact ⟨rfl, rfl, trivial⟩
                    · replace h75 : (w 22 y2c : Int) ≥ 0 := Int.not_lt.mp (show ¬ ((w 22 y2c : Int) < 0) from h75)
                      refine e_Ok.ps1 (x := (1, 0)) (q := 151) 1 rfl ?_
                      refine e_Ok.getr (z := 10) rfl (el_o rfl) rfl rfl ((q70f 0 3 no_cu_3).trans ((j37 0 3 no_cu_0).trans (e_Has.eq hT (kt_o rfl)))) ⟨by decide, by decide⟩ ?_
                      refine e_Ok.ps1 (x := (1, 0)) (q := 155) 1 rfl ?_
                      refine e_Ok.getr (z := 19) rfl (el_o rfl) rfl rfl ((q70f 0 4 no_cu_3).trans ((j37 0 4 no_cu_0).trans (e_Has.eq hT (kt_o rfl)))) ⟨by decide, by decide⟩ ?_
                      refine e_Ok.getr (z := 22) rfl (el_o rfl) rfl rfl ((q70f 19 4 no_cu_4).trans ((j37 19 4 no_cu_1).trans (e_Has.eq hT (kt_o rfl)))) ⟨by decide, by decide⟩ ?_
                      refine e_Ok.ps1 (x := (0, y2c)) (q := 162) 1 rfl ?_
                      refine e_Ok.ald (z := w 22 y2c) rfl (el_o rfl) rfl (by omega) ((q70f 22 y2c no_cu_5).trans ((j37 22 y2c no_cu_6).trans rfl)) (by omega) ?_
                      refine e_Ok.ps1 (x := (1, 0)) (q := 164) 1 rfl ?_
                      refine e_Ok.getr (z := 19) rfl (el_o rfl) rfl rfl ((q70f 0 4 no_cu_3).trans ((j37 0 4 no_cu_0).trans (e_Has.eq hT (kt_o rfl)))) ⟨by decide, by decide⟩ ?_
                      refine e_Ok.ps1 (x := (0, y2c)) (q := 168) 1 rfl ?_
                      refine e_Ok.callV rfl (e_dq hd rfl) rfl rfl rfl rfl (c_87 (e_dq hd rfl) q70T (by omega) Q73.fk (by omega)) (fun r76 w77 h78 => ?_)
                      obtain ⟨z80, rfl, rfl, q79r⟩ := h78
                      refine e_Ok.nrm (q := 171) (st' := [(0, z80), (0, w 22 y2c), (1, 10)]) rfl rfl ?_
                      have hJ83 : ∀ m82 : Int, 0 ≤ m82 ∧ m82 ≤ 1 → e_Ok 20 elay kcode eI (d + 1) 259 (179, [(0, (1, 0)), (2, (0, y2c))], [(0, m82), (0, w 22 y2c), (1, 10)], w68) (fun r w' => r = [] ∧ e_Has kTy w' ∧ (e_fr kNw w w' ∧ w' 74 0 = w 74 0 + 1) ∧ ∃ h', h ≤ h' ∧ kI w' OP OD CL h' (-1) ∧ w 74 1 ≤ w' 74 1 ∧ w' 74 1 ≤ w 74 1 + 900 ∧ aQ w w') := by
                        intro m82 m82r
                        refine e_Ok.callV rfl (e_dq hd rfl) rfl rfl rfl rfl (c_113 (e_dq hd rfl) q70T (by omega) (by omega) Q73.pf) (fun r84 w85 h86 => ?_)
                        obtain ⟨z88, rfl, q87f, q87T, q87r, q87x⟩ := h86
                        have A90 : aQ w w85 := aQ.trans A72 (aQ.q (e_fr.mono q87f (fun c k q => nq_kPo q)) q70T q87T)
                        have Q91 := kI.po Q73 q87T (e_fr.mono q87f (fun c k g => ph_kPo g)) q87x
                        show e_Ok 20 elay kcode eI (d + 1) 259 (182, [(0, (1, 0)), (2, (0, y2c))], [(0, z88)], w85) _
                        refine e_Ok.run (t' := (183, [(0, (1, 0)), (2, (0, y2c))], [], w85)) 1 rfl ?_
                        refine e_Ok.inc (z := y2c + 1) rfl rfl (by first | with_reducible rfl | omega) (by omega) ?_
                        show e_Ok 20 elay kcode eI (d + 1) 259 (186, [(2, (0, y2c + 1)), (0, (1, 0))], [], w85) _
                        refine e_Ok.ps0 (q := 119) 1 rfl ?_
                        refine e_Ok.sub kAlk (e_sub_of rfl ?_) (ih36 (y2c + 1) w85 ⟨(show e_fr kNw w w85 from e_fr.trans f71 (e_fr.mono q87f (fun c k q => by exact nw_kPo q))), q87T, ((q87f _ _ (by unfold kPo; omega)).trans tG), Q91, (by rw [q87f _ _ (by unfold kPo; omega)]; omega), by omega, A90⟩ (by omega))
                        exact ⟨rfl, rfl, trivial⟩
                      refine e_Ok.if1 rfl (fun h81 => ?_) (fun h81 => ?_)
                      · exact e_Ok.run 1 rfl (hJ83 0 (by omega))
                      · exact e_Ok.run 2 rfl (hJ83 1 (by omega))
              refine e_Ok.run (t' := (104, [(0, (1, 0)), (2, (0, y2b))], [(1, 0)], v2)) 1 rfl ?_
              refine e_Ok.getr (z := 74) rfl (el_o rfl) rfl rfl ((j26 0 5 no_cu_0).trans (e_Has.eq hT (kt_o rfl))) ⟨by decide, by decide⟩ ?_
              have h92 := (e_Has.get j27 (c := 74) (k := 3) (lo := 0) (hi := 1) rfl (by decide))
              refine e_Ok.getf (z := v2 74 3) rfl (el_o rfl) rfl rfl rfl (e_bq h92 (by decide) (by decide)) ?_
              refine e_Ok.if1 rfl (fun h93 => ?_) (fun h93 => ?_)
              · replace h93 : (v2 74 3 : Int) = 0 := h93
                refine e_Ok.run (t' := (119, [(2, (0, 0)), (0, (1, 0))], [], v2)) 2 rfl ?_
                refine e_Ok.sub kAlk (e_sub_of rfl ?_) (hL35 (4 + 1 : Int).toNat 0 v2 ⟨j26, j27, j28, j29, (by omega), by omega, j32⟩ (by omega))
                exact ⟨rfl, rfl, trivial⟩
              · replace h93 : (v2 74 3 : Int) ≠ 0 := (show ¬ ((v2 74 3 : Int) = 0) from h93)
                refine e_Ok.ps1 (x := (1, 0)) (q := 114) 1 rfl ?_
                refine e_Ok.callV rfl (e_dq hd rfl) rfl rfl rfl rfl (c_262 (e_dq hd rfl) j27 j29 (by omega)) (fun r94 w95 h101 => ?_)
                obtain ⟨rfl, q103T, q103f, q103x⟩ := h101
                have A105 : aQ w w95 := aQ.trans j32 (aQ.q q103f.1 j27 q103T)
                refine e_Ok.nrm (q := 117) (st' := []) rfl rfl ?_
                refine e_Ok.run (t' := (119, [(2, (0, 0)), (0, (1, 0))], [], w95)) 2 rfl ?_
                refine e_Ok.sub kAlk (e_sub_of rfl ?_) (hL35 (4 + 1 : Int).toNat 0 w95 ⟨(show e_fr kNw w w95 from e_fr.trans j26 (e_fr.mono q103f.1 (fun c k q => by exact nq_nw q))), q103T, (q103f.2.trans j28), q103x.1, (by have g := q103x.2; omega), by omega, A105⟩ (by omega))
                exact ⟨rfl, rfl, trivial⟩
            · replace h34 : (y2b : Int) < w 0 11 := Int.not_le.mp (show ¬ ((y2b : Int) ≥ w 0 11) from h34)
              refine e_Ok.ps2 (x := (0, y2b)) (y := (1, 0)) (q := 94) 2 rfl ?_
              refine e_Ok.callV rfl (e_dq hd rfl) rfl rfl rfl rfl (c_260 (e_dq hd rfl) (a := y2b) j27 (by omega) j29 (by omega)) (fun r106 w107 h108 => ?_)
              obtain ⟨rfl, q109T, q109f, q109x⟩ := h108
              have A111 : aQ w w107 := aQ.trans j32 (q109x.2.2.2)
              refine e_Ok.nrm (q := 97) (st' := []) rfl rfl ?_
              refine e_Ok.inc (z := y2b + 1) rfl rfl (by first | with_reducible rfl | omega) (by omega) ?_
              show e_Ok 20 elay kcode eI (d + 1) 259 (100, [(2, (0, y2b + 1)), (0, (1, 0))], [], w107) _
              refine e_Ok.ps0 (q := 84) 1 rfl ?_
              refine e_Ok.sub kAlk (e_sub_of rfl ?_) (ih25 (y2b + 1) w107 ⟨(show e_fr kNw w w107 from e_fr.trans j26 (e_fr.mono q109f.1 (fun c k q => by exact q))), q109T, (q109f.2.trans j28), q109x.1, (by have g := q109x.2; omega), by omega, A111⟩ (by omega))
              exact ⟨rfl, rfl, trivial⟩
        refine e_Ok.sub kAlk (e_sub_of rfl ?_) (hL24 (4 + 1 : Int).toNat 0 v1 ⟨j15, j16, j17, j19, by omega, by omega, j22⟩ (by omega))
        exact ⟨rfl, rfl, trivial⟩
      · replace h23 : (y2 : Int) < 16 := Int.not_le.mp (show ¬ ((y2 : Int) ≥ 16) from h23)
        refine e_Ok.ps1 (x := (1, 0)) (q := 50) 1 rfl ?_
        refine e_Ok.getr (z := 8) rfl (el_o rfl) rfl rfl ((j15 0 1 no_cu_0).trans (e_Has.eq hT (kt_o rfl))) ⟨by decide, by decide⟩ ?_
        refine e_Ok.ps1 (x := (0, y2)) (q := 54) 1 rfl ?_
        refine e_Ok.callV rfl (e_dq hd rfl) rfl rfl rfl rfl (c_42 (e_dq hd rfl) j16 (by omega) j19) (fun r112 w113 h114 => ?_)
        obtain ⟨z115, rfl, rfl, q116r, q116x⟩ := h114
        refine e_Ok.nrm (q := 57) (st' := [(0, z115)]) rfl rfl ?_
        refine e_Ok.if1 rfl (fun h117 => ?_) (fun h117 => ?_)
        · replace h117 : (z115 : Int) = 0 := h117
          refine e_Ok.inc (z := y2 + 1) rfl rfl (by first | with_reducible rfl | omega) (by omega) ?_
          show e_Ok 20 elay kcode eI (d + 1) 259 (79, [(2, (0, y2 + 1)), (0, (1, 0))], [], v1) _
          refine e_Ok.ps0 (q := 43) 1 rfl ?_
          refine e_Ok.sub kAlk (e_sub_of rfl ?_) (ih14 (y2 + 1) v1 h1 ⟨j15, j16, j17, j18, j19, (by omega), by omega, j22⟩ (by omega))
          exact ⟨rfl, rfl, trivial⟩
        · replace h117 : (z115 : Int) ≠ 0 := (show ¬ ((z115 : Int) = 0) from h117)
          refine e_Ok.ps1 (x := (1, 0)) (q := 61) 1 rfl ?_
          refine e_Ok.getr (z := 8) rfl (el_o rfl) rfl rfl ((j15 0 1 no_cu_0).trans (e_Has.eq hT (kt_o rfl))) ⟨by decide, by decide⟩ ?_
          refine e_Ok.ps1 (x := (1, 0)) (q := 65) 1 rfl ?_
          refine e_Ok.getr (z := 8) rfl (el_o rfl) rfl rfl ((j15 0 1 no_cu_0).trans (e_Has.eq hT (kt_o rfl))) ⟨by decide, by decide⟩ ?_
          refine e_Ok.getr (z := 82) rfl (el_o rfl) rfl rfl ((j15 8 4 no_cu_7).trans (e_Has.eq hT (kt_o rfl))) ⟨by decide, by decide⟩ ?_
          refine e_Ok.ps1 (x := (0, y2)) (q := 72) 1 rfl ?_
          refine e_Ok.aald (z := 6 * y2 + 154) rfl (el_o rfl) rfl (by omega) ((j15 82 y2 no_cu_8).trans (Eq.trans (e_Has.eq hT (k82 (by omega))) (by omega))) (by omega) ?_
          have hact := q116x (by omega)
          have tq := j19.ts (t := y2) (by omega) (by omega)
          have ta := tq.1.1 (by omega) (by omega)
          have tb := e_Has.get j16 (c := 6 * y2 + 154) (k := 2) (lo := -1) (hi := 3) (kT_2 (t := y2) rfl (by omega)) (by decide)
          refine e_Ok.callV rfl (e_dq hd rfl) rfl rfl rfl rfl (c_43 (e_dq hd rfl) j16 (by omega) (kI.weak j19 (by decide)) (a := v1 (6 * y2 + 154) 2) (by omega) rfl rfl (by omega) hact ((tq.2 hact.1 hact.2).2 (by omega)) (by omega)) (fun r118 w119 h120 => ?_)
          obtain ⟨rfl, q121T, q121f, q121h, q121x⟩ := h120
          have A123 : aQ w w119 := aQ.trans j22 (aQ.q q121f.1 j16 q121T)
          refine e_Ok.nrm (q := 76) (st' := []) rfl rfl ?_
          refine e_Ok.inc (z := y2 + 1) rfl rfl (by first | with_reducible rfl | omega) (by omega) ?_
          show e_Ok 20 elay kcode eI (d + 1) 259 (79, [(2, (0, y2 + 1)), (0, (1, 0))], [], w119) _
          refine e_Ok.ps0 (q := 43) 1 rfl ?_
          refine e_Ok.sub kAlk (e_sub_of rfl ?_) (ih14 (y2 + 1) w119 q121h ⟨(show e_fr kNw w w119 from e_fr.trans j15 (e_fr.mono q121f.1 (fun c k q => by exact nq_nw q))), q121T, (q121f.2.trans j17), (Int.le_trans j18 q121x.1), q121x.2.1, (by have g := q121x.2.2; omega), by omega, A123⟩ (by omega))
          exact ⟨rfl, rfl, trivial⟩
  refine e_Ok.run (t' := (22, [(1, (0, z8)), (0, (1, 0))], [(1, 0)], w6)) 1 rfl ?_
  refine e_Ok.getr (z := 74) rfl (el_o rfl) rfl rfl ((q9f 0 5 no_cu_9).trans (e_uq hw1 (Or.inl (by decide)) (e_Has.eq hT (kt_o rfl)))) ⟨by decide, by decide⟩ ?_
  have h124 := (e_Has.get hT (c := 74) (k := 3) (lo := 0) (hi := 1) (kt_o rfl) (by decide))
  refine e_Ok.getf (z := w 74 3) rfl (el_o rfl) rfl rfl ((q9f 74 3 no_cu_10).trans (e_uq hw1 (Or.inr (by decide)) rfl)) (e_bq h124 (by decide) (by decide)) ?_
  refine e_Ok.if1 rfl (fun h125 => ?_) (fun h125 => ?_)
  · replace h125 : (w 74 3 : Int) = 0 := h125
    refine e_Ok.run (t' := (43, [(2, (0, 0)), (1, (0, z8)), (0, (1, 0))], [], w6)) 2 rfl ?_
    refine e_Ok.sub kAlk (e_sub_of rfl ?_) (hL13 (16 + 1 : Int).toNat 0 w6 h ⟨f10, q9T, tB, Int.le_refl h, Q12, (by omega), by omega, A11⟩ (by omega))
    exact ⟨rfl, rfl, trivial⟩
  · replace h125 : (w 74 3 : Int) ≠ 0 := (show ¬ ((w 74 3 : Int) = 0) from h125)
    refine e_Ok.ps1 (x := (0, z8)) (q := 32) 1 rfl ?_
    refine e_Ok.if1 rfl (fun h126 => ?_) (fun h126 => ?_)
    · replace h126 : (z8 : Int) < 0 := h126
      refine e_Ok.run (t' := (43, [(2, (0, 0)), (1, (0, z8)), (0, (1, 0))], [], w6)) 2 rfl ?_
      refine e_Ok.sub kAlk (e_sub_of rfl ?_) (hL13 (16 + 1 : Int).toNat 0 w6 h ⟨f10, q9T, tB, Int.le_refl h, Q12, (by omega), by omega, A11⟩ (by omega))
      exact ⟨rfl, rfl, trivial⟩
    · replace h126 : (z8 : Int) ≥ 0 := Int.not_lt.mp (show ¬ ((z8 : Int) < 0) from h126)
      refine e_Ok.ps3 (x := (0, z8)) (y := (0, 1)) (z := (1, 0)) (q := 38) 3 rfl ?_
      refine e_Ok.callV rfl (e_dq hd rfl) rfl rfl rfl rfl (c_265 (e_dq hd rfl) q9T (by omega) (by omega) Q12 (by omega)) (fun r127 w128 h129 => ?_)
      obtain ⟨rfl, q130T, q130f, q130x⟩ := h129
      have A132 : aQ w w128 := aQ.trans A11 (aQ.q q130f.1 q9T q130T)
      refine e_Ok.nrm (q := 41) (st' := []) rfl rfl ?_
      refine e_Ok.run (t' := (43, [(2, (0, 0)), (1, (0, z8)), (0, (1, 0))], [], w128)) 2 rfl ?_
      refine e_Ok.sub kAlk (e_sub_of rfl ?_) (hL13 (16 + 1 : Int).toNat 0 w128 h ⟨(show e_fr kNw w w128 from e_fr.trans f10 (e_fr.mono q130f.1 (fun c k q => by exact nq_nw q))), q130T, (q130f.2.trans tB), Int.le_refl h, q130x.1, (by have g := q130x.2.2; omega), by omega, A132⟩ (by omega))
      exact ⟨rfl, rfl, trivial⟩
end
end
-- part cv
section
noncomputable section
/-! the class: power is switched on -/
section Kv
variable {w w' : eW} {OP OD CL : Int → Int → Int} {h t0 : Int}
/-- power is switched on -/
theorem kI.pon (q : kI w OP OD CL h t0) (hT : e_Has kTy w') (f : e_fr kPw w w') (h3 : w' 74 3 = 1) (hL : lgK w') : kI w' OP OD CL h t0 := by
  refine kI.lg (kI.pup q) hT (fun c k g => ?_) hL
  by_cases g2 : c = 74 ∧ k = 3
  · rw [g2.1, g2.2, e_up_eq]; exact h3
  · rw [e_up_ne _ _ (by omega)]
    refine f c k (fun g3 => g ?_)
    unfold kPw at g3
    rcases g3 with g3 | g3 | g3
    · exact Or.inr (Or.inl ⟨g3.1, by omega⟩)
    · exact Or.inr (Or.inr g3)
    · refine Or.inl (hm_kCi ?_)
      exact Or.inl g3
theorem hm_kCh {c k : Int} (g : kCh c k) : kHm c k := by
  unfold kCh at g
  unfold kHm
  have h1 : 76 ≤ c ∧ c ≤ 81 := by omega
  simp only [h1.1, h1.2, true_and, true_or, or_true]
end Kv
theorem no_cv_0 : ¬ kPw 74 2 := by unfold kPw; omega
theorem no_cv_1 : ¬ kLg 74 3 := by unfold kLg; omega
theorem no_cv_2 : ¬ kPw 74 13 := by unfold kPw; omega
theorem su_cv_3 {c k : Int} (q : kLg c k) : kPw c k := by
  unfold kLg at q
  rcases q with ⟨q, q⟩ | q
  · exact Or.inl ⟨(by omega), Or.inl (by omega)⟩
  · exact Or.inr (Or.inl (by omega))
theorem c_33_b {d : Nat} (hd : 21 ≤ d) {w : eW} (hT : e_Has kTy w) {e1 : Int} (g_e1 : (-2147483648) ≤ e1 ∧ e1 ≤ 2147483647) (he : w 74 1 < 2147483647) : e_Ok 20 elay kcode eI d 33 (0, [(0, (1, 74)), (1, (0, e1))], [], w) (fun r w' => ∃ z : Int, r = [(0, z)] ∧ e_fr kPw w w' ∧ e_Has kTy w' ∧ (1 ≤ z ∧ z ≤ 1) ∧ ((w' 74 1 = w 74 1 + 1 ∧ (lgK w → lgK w')) ∧ w' 74 3 = 1)) := by
  obtain ⟨d, rfl⟩ : ∃ e, d = e + 1 := ⟨d - 1, by omega⟩
  have h74 := e_Has.get hT (c := 74) (k := 1) (lo := 0) (hi := 2147483647) (kt_o rfl) (by decide)
  refine e_Ok.run (t' := (2, [(2, (0, 0)), (0, (1, 74)), (1, (0, e1))], [], w)) 2 rfl ?_
  have hL1 : ∀ (nn : Nat) (y2 : Int) (v1 : eW), e_fr kPw w v1 ∧ e_Has kTy v1 ∧ e_fr kNl w v1 ∧ (0 ≤ y2 ∧ y2 ≤ 8) → 8 - y2 < nn → e_Ok 20 elay kcode eI (d + 1) 33 (2, [(0, (1, 74)), (1, (0, e1)), (2, (0, y2))], [], v1) (fun r w' => ∃ z : Int, r = [(0, z)] ∧ e_fr kPw w w' ∧ e_Has kTy w' ∧ (1 ≤ z ∧ z ≤ 1) ∧ ((w' 74 1 = w 74 1 + 1 ∧ (lgK w → lgK w')) ∧ w' 74 3 = 1)) := by
    intro nn
    induction nn with
    | zero => intro y2 v1 hj hm; obtain ⟨j3, j4, j5, j6⟩ := hj; exfalso; omega
    | succ nn ih2 =>
      intro y2 v1 hj hm
      obtain ⟨j3, j4, j5, j6⟩ := hj
      refine e_Ok.run (t' := (4, [(0, (1, 74)), (1, (0, e1)), (2, (0, y2))], [(1, 74), (0, y2)], v1)) 2 rfl ?_
      have h7 := (e_Has.get hT (c := 74) (k := 2) (lo := 0) (hi := 8) (kt_o rfl) (by decide))
      refine e_Ok.getf (z := w 74 2) rfl (el_o rfl) rfl rfl ((j3 74 2 no_cv_0).trans rfl) (e_bq h7 (by decide) (by decide)) ?_
      refine e_Ok.if2 rfl (fun h8 => ?_) (fun h8 => ?_)
      · replace h8 : (y2 : Int) ≥ w 74 2 := h8
        refine e_Ok.ps2 (x := (0, 1)) (y := (1, 74)) (q := 25) 2 rfl ?_
        refine e_Ok.putb rfl (el_o rfl) rfl rfl (by omega) ?_
        generalize hw9 : e_up v1 74 3 1 = w9
        have hT11 : e_Has kTy w9 := e_Has.upr j4 hw9 rfl (by omega)
        refine e_Ok.ps4 (x := (0, 0)) (y := (0, e1)) (z := (0, 3)) (u := (1, 74)) (q := 32) 4 rfl ?_
        refine e_Ok.callV rfl (e_dq hd rfl) rfl rfl rfl rfl (c_27 hT11 (by omega) (by omega) (by omega) (by rw [(show e_fr kNl w w9 from e_fr.up j5 hw9 (by unfold kNl; omega)) _ _ (by unfold kNl; omega)]; exact he)) (fun r12 w13 h14 => ?_)
        obtain ⟨rfl, q15f, q15T, q15x⟩ := h14
        refine e_Ok.nrm (q := 35) (st' := []) rfl rfl ?_
        refine e_Ok.ps1 (x := (0, 1)) (q := 36) 1 rfl ?_
        refine e_Ok.rets rfl rfl ?_
        exact ⟨_, rfl, (show e_fr kPw w w13 from e_fr.trans (show e_fr kPw w w9 from e_fr.up j3 hw9 (by first | exact Or.inl ⟨rfl, Or.inr rfl⟩ | (unfold kPw; omega))) (e_fr.mono q15f (fun c k q => su_cv_3 q))), q15T, ⟨by omega, by omega⟩, ⟨⟨(by rw [q15x.1, (show e_fr kNl w w9 from e_fr.up j5 hw9 (by unfold kNl; omega)) _ _ (by unfold kNl; omega)]), fun hL => q15x.2 (by have f := (show e_fr kNl w w9 from e_fr.up j5 hw9 (by unfold kNl; omega)); exact lgK.ch f hL)⟩, ((q15f 74 3 no_cv_1).trans (e_ue hw9))⟩⟩
      · replace h8 : (y2 : Int) < w 74 2 := Int.not_le.mp (show ¬ ((y2 : Int) ≥ w 74 2) from h8)
        refine e_Ok.ps1 (x := (1, 74)) (q := 11) 1 rfl ?_
        refine e_Ok.getr (z := 80) rfl (el_o rfl) rfl rfl ((j3 74 13 no_cv_2).trans (e_Has.eq hT (kt_o rfl))) ⟨by decide, by decide⟩ ?_
        refine e_Ok.ps2 (x := (0, 0)) (y := (0, y2)) (q := 16) 2 rfl ?_
        refine e_Ok.ast rfl (el_o rfl) rfl (e_nar_b (by omega)) (by omega) ?_
        generalize hw17 : e_up v1 80 y2 0 = w17
        have hT19 : e_Has kTy w17 := e_Has.upr j4 hw17 rfl (by omega)
        refine e_Ok.inc (z := y2 + 1) rfl rfl (by first | with_reducible rfl | omega) (by omega) ?_
        show e_Ok 20 elay kcode eI (d + 1) 33 (20, [(2, (0, y2 + 1)), (0, (1, 74)), (1, (0, e1))], [], w17) _
        refine e_Ok.ps0 (q := 2) 1 rfl ?_
        refine e_Ok.sub kAlk (e_sub_of rfl ?_) (ih2 (y2 + 1) w17 ⟨(show e_fr kPw w w17 from e_fr.up j3 hw17 (by first | exact Or.inr (Or.inr rfl) | (unfold kPw; omega))), hT19, (show e_fr kNl w w17 from e_fr.up j5 hw17 (by unfold kNl; omega)), by omega⟩ (by omega))
        exact ⟨rfl, rfl, rfl, trivial⟩
  refine e_Ok.sub kAlk (e_sub_of rfl ?_) (hL1 (8 + 1 : Int).toNat 0 w ⟨(e_fr.refl w), hT, (e_fr.refl w), by omega⟩ (by omega))
  exact ⟨rfl, rfl, rfl, trivial⟩
end
end
-- part cw
section
noncomputable section
/-! the class: a travel begins -/
set_option maxHeartbeats 4000000 in
theorem c_107 {d : Nat} (hd : 25 ≤ d) {w : eW} (hT : e_Has kTy w) {a y : Int} (ga : 0 ≤ a ∧ a ≤ 3) {OP OD CL : Int → Int → Int} {h t0 : Int} (q : kI w OP OD CL h t0) (hY : w (17 * a + 86) 17 = y) (hy0 : 0 ≤ y) (hs : w (17 * a + 86) 11 = 0) (hm : w (17 * a + 86) 19 = 0) (hpw : ¬ w 74 3 = 0) : e_Ok 20 elay kcode eI d 107 (0, [(0, (1, 262)), (1, (1, 17 * a + 86))], [], w) (fun r w' => ∃ z : Int, r = [(0, z)] ∧ e_Has kTy w' ∧ (e_fr kNq w w' ∧ w' 74 0 = w 74 0 ∧ w' 74 1 = w 74 1) ∧ kI w' OP OD CL h t0) := by
  obtain ⟨d, rfl⟩ : ∃ e, d = e + 1 := ⟨d - 1, by omega⟩
  have hjn := kn_joints hT (a := a) (by omega)
  have hyr := e_Has.get hT (c := 17 * a + 86) (k := 17) (lo := -1) (hi := 59) (kA_17 (a := a) rfl ga) (by decide)
  have hA := q.arm (a := a) (by omega) (by omega)
  have hy : 0 ≤ y → yD w (w (17 * a + 86) 8) y := by have g := hA.2.2.2.2.2.1; rw [hY] at g; exact g
  have hyp := hA.2.2.2.2.2.2.1 (by omega) hm
  rw [hY] at hyp
  have hyl := (hy (by omega)).1
  refine e_Ok.run (t' := (2, [(0, (1, 262)), (1, (1, 17 * a + 86))], [(1, 17 * a + 86), (1, 262)], w)) 2 rfl ?_
  refine e_Ok.getf (z := y) rfl (lA0 (a := a) rfl ga) rfl rfl hY (by omega) ?_
  refine e_Ok.callV rfl (e_dq hd rfl) rfl rfl rfl rfl (c_95 (e_dq hd rfl) (m := w (17 * a + 86) 8) hT (by omega) hy) (fun r1 w2 h3 => ?_)
  obtain ⟨z4, rfl, rfl, q5r, q5x⟩ := h3
  refine e_Ok.nrm (q := 8) (st' := [(0, z4)]) rfl rfl ?_
  refine e_Ok.run (t' := (10, [(2, (0, z4)), (0, (1, 262)), (1, (1, 17 * a + 86))], [(0, z4)], w)) 2 rfl ?_
  refine e_Ok.if1 rfl (fun h6 => ?_) (fun h6 => ?_)
  · replace h6 : (z4 : Int) ≠ 0 := h6
    refine e_Ok.run (t' := (20, [(4, (0, 1)), (3, (0, 1)), (2, (0, z4)), (0, (1, 262)), (1, (1, 17 * a + 86))], [], w)) 4 rfl ?_
    have hL7 : ∀ (nn : Nat) (y3 : Int) (y4 : Int), (1 ≤ y4 ∧ y4 ≤ 1001) ∧ ((1 ≤ y3 ∧ y3 ≤ y4)) → 1001 - y4 < nn → e_Ok 20 elay kcode eI (d + 1) 107 (20, [(0, (1, 262)), (1, (1, 17 * a + 86)), (2, (0, z4)), (3, (0, y3)), (4, (0, y4))], [], w) (fun r w' => ∃ z : Int, r = [(0, z)] ∧ e_Has kTy w' ∧ (e_fr kNq w w' ∧ w' 74 0 = w 74 0 ∧ w' 74 1 = w 74 1) ∧ kI w' OP OD CL h t0) := by
      intro nn
      induction nn with
      | zero => intro y3 y4 hj hm; obtain ⟨j9, j10⟩ := hj; exfalso; omega
      | succ nn ih8 =>
        intro y3 y4 hj hm
        obtain ⟨j9, j10⟩ := hj
        refine e_Ok.run (t' := (23, [(0, (1, 262)), (1, (1, 17 * a + 86)), (2, (0, z4)), (3, (0, y3)), (4, (0, y4))], [(0, z4), (0, y4)], w)) 2 rfl ?_
        refine e_Ok.if2 rfl (fun h11 => ?_) (fun h11 => ?_)
        · replace h11 : (y4 : Int) ≥ z4 := h11
          refine e_Ok.ps2 (x := (0, 0)) (y := (1, 17 * a + 86)) (q := 62) 2 rfl ?_
          refine e_Ok.putf rfl (lA0 (a := a) rfl ga) rfl rfl ?_
          generalize hw12 : e_up w (17 * a + 86) 18 0 = w12
          have hT14 : e_Has kTy w12 := e_Has.upr hT hw12 (kA_18 (a := a) rfl ga) (by omega)
          refine e_Ok.ps2 (x := (1, 17 * a + 86)) (y := (1, 262)) (q := 67) 2 rfl ?_
          have eA : ∀ c k, ¬ (c = 17 * a + 86 ∧ k = 18) → w12 c k = w c k := fun c k g => by rw [← hw12]; exact e_up_ne _ _ (by omega)
          have e8 : w12 (17 * a + 86) 8 = w (17 * a + 86) 8 := eA _ _ (by omega)
          have e17 : w12 (17 * a + 86) 17 = y := (eA _ _ (by omega)).trans hY
          have e18 : w12 (17 * a + 86) 18 = 0 := by rw [← hw12]; exact e_up_eq _ _ _ _
          have e270 : w12 270 y = w 270 y := eA _ _ (by omega)
          refine e_Ok.callV rfl (e_dq hd rfl) rfl rfl rfl rfl (c_108 (e_dq hd rfl) (a := a) hT14 (by omega) e17 e18 (fun g => by rw [e8]; exact (hy g).eq (fun c k g1 g2 => eA _ _ (by omega))) (fun g => ⟨by omega, by omega, by rw [e8]; exact hyp.eq (fun c k g1 g2 => eA _ _ (by omega)) (fun j g1 g2 => ⟨eA _ _ (by omega), eA _ _ (by omega)⟩) (fun j g1 g2 => eA _ _ (by omega))⟩) (fun j g1 g2 => by rw [eA _ _ (by omega)]; have g3 := hA.2.2.1 j g1 (by omega); have g4 := g3.1.1; have g5 := g3.2.1; omega)) (fun r15 w16 h17 => ?_)
          obtain ⟨z18, rfl, q19f, q19T, q19x⟩ := h17
          refine e_Ok.nrm (q := 70) (st' := [(0, z18)]) rfl rfl ?_
          refine e_Ok.run (t' := (72, [(0, (1, 262)), (1, (1, 17 * a + 86)), (2, (0, z4)), (3, (0, y3)), (4, (0, y4))], [(0, y3)], w16)) 2 rfl ?_
          refine e_Ok.rets rfl rfl ?_
          obtain ⟨-, k1, k2, k3, k4, k5, k6⟩ : z18 = 1 ∧ _ := by rcases q19x with g | g; exact absurd g.2.2 (by omega); exact g
          have fW : e_fr (kGf a) w w16 := fun c k g => by rw [q19f c k g]; exact eA c k (fun g2 => g (by unfold kGf; omega))
          have hA3 := hA.further (w' := w16) (by omega) (by omega) (fun c k g1 g2 => fW c k g2) (fun i g1 g2 => (hA.2.2.1 i g1 g2).2.2.1 hs) k1.1 k1.2 (fun j g1 g2 => by have g3 := k2 j g1 (by omega); rw [eA _ _ (by omega), eA _ _ (by omega)] at g3; exact g3) (by omega) (by rw [hY]; omega) (by rw [hY]; rw [e8] at k6; exact k6)
          have Q4 := kI.ar q q19T (by omega) (fW.mono (fun c k g => ah_kGf g)) (q.lgk.fr fW (by unfold kGf; omega) (fun k => by unfold kGf; omega)) hA3 (fun g => absurd g hpw)
          exact ⟨_, rfl, q19T, ⟨(show e_fr kNq w w16 from e_fr.trans (show e_fr kNq w w12 from e_fr.up (e_fr.refl w) hw12 (by unfold kNq; omega)) (e_fr.mono q19f (fun c k q => by exact nq_kGf (by omega) q))), fW _ _ (by unfold kGf; omega), fW _ _ (by unfold kGf; omega)⟩, Q4⟩
        · replace h11 : (y4 : Int) < z4 := Int.not_le.mp (show ¬ ((y4 : Int) ≥ z4) from h11)
          refine e_Ok.ps2 (x := (1, 17 * a + 86)) (y := (1, 262)) (q := 28) 2 rfl ?_
          refine e_Ok.getf (z := y) rfl (lA0 (a := a) rfl ga) rfl rfl hY (by omega) ?_
          refine e_Ok.ps1 (x := (0, y4)) (q := 33) 1 rfl ?_
          refine e_Ok.callV rfl (e_dq hd rfl) rfl rfl rfl rfl (c_96 (e_dq hd rfl) (m := w (17 * a + 86) 8) hT (by omega) (by omega) hy (by omega)) (fun r21 w22 h23 => ?_)
          obtain ⟨z24, rfl, rfl, q25r, q25x⟩ := h23
          clear q25x
          refine e_Ok.nrm (q := 36) (st' := [(0, z24)]) rfl rfl ?_
          refine e_Ok.ps2 (x := (1, 17 * a + 86)) (y := (1, 262)) (q := 38) 2 rfl ?_
          refine e_Ok.getf (z := y) rfl (lA0 (a := a) rfl ga) rfl rfl hY (by omega) ?_
          refine e_Ok.ps2 (x := (0, 1)) (y := (0, y4)) (q := 44) 2 rfl ?_
          refine e_Ok.sub' (z := y4 - 1) rfl rfl (by omega) ?_
          refine e_Ok.callV rfl (e_dq hd rfl) rfl rfl rfl rfl (c_96 (e_dq hd rfl) (m := w (17 * a + 86) 8) hT (by omega) (by omega) hy (by omega)) (fun r26 w27 h28 => ?_)
          obtain ⟨z29, rfl, rfl, q30r, q30x⟩ := h28
          clear q30x
          refine e_Ok.nrm (q := 48) (st' := [(0, z29), (0, z24)]) rfl rfl ?_
          refine e_Ok.if2 rfl (fun h31 => ?_) (fun h31 => ?_)
          · replace h31 : (z24 : Int) = z29 := h31
            refine e_Ok.inc (z := y4 + 1) rfl rfl (by first | with_reducible rfl | omega) (by omega) ?_
            show e_Ok 20 elay kcode eI (d + 1) 107 (57, [(4, (0, y4 + 1)), (0, (1, 262)), (1, (1, 17 * a + 86)), (2, (0, z4)), (3, (0, y3))], [], w) _
            refine e_Ok.ps0 (q := 20) 1 rfl ?_
            refine e_Ok.sub kAlk (e_sub_of rfl ?_) (ih8 y3 (y4 + 1) ⟨by omega, by omega⟩ (by omega))
            exact ⟨rfl, rfl, rfl, rfl, rfl, trivial⟩
          · replace h31 : (z24 : Int) ≠ z29 := (show ¬ ((z24 : Int) = z29) from h31)
            refine e_Ok.inc (z := y3 + 1) rfl rfl (by first | with_reducible rfl | omega) (by omega) ?_
            show e_Ok 20 elay kcode eI (d + 1) 107 (54, [(3, (0, y3 + 1)), (0, (1, 262)), (1, (1, 17 * a + 86)), (2, (0, z4)), (4, (0, y4))], [], w) _
            refine e_Ok.inc (z := y4 + 1) rfl rfl (by first | with_reducible rfl | omega) (by omega) ?_
            show e_Ok 20 elay kcode eI (d + 1) 107 (57, [(4, (0, y4 + 1)), (3, (0, y3 + 1)), (0, (1, 262)), (1, (1, 17 * a + 86)), (2, (0, z4))], [], w) _
            refine e_Ok.ps0 (q := 20) 1 rfl ?_
            refine e_Ok.sub kAlk (e_sub_of rfl ?_) (ih8 (y3 + 1) (y4 + 1) ⟨by omega, by omega⟩ (by omega))
            exact ⟨rfl, rfl, rfl, rfl, rfl, trivial⟩
    refine e_Ok.sub kAlk (e_sub_of rfl ?_) (hL7 (1001 + 1 : Int).toNat 1 1 ⟨by omega, by omega⟩ (by omega))
    exact ⟨rfl, rfl, rfl, rfl, rfl, trivial⟩
  · replace h6 : (z4 : Int) = 0 := Classical.not_not.mp (show ¬ ((z4 : Int) ≠ 0) from h6)
    refine e_Ok.ps1 (x := (0, 0)) (q := 14) 1 rfl ?_
    refine e_Ok.rets rfl rfl ?_
    exact ⟨_, rfl, hT, ⟨e_fr.refl w, rfl, rfl⟩, q⟩
end
end
-- part cx
section
noncomputable section
/-! what is kept, is kept by contents that know more -/
section Kx
variable {w w' : eW} {OP OD CL : Int → Int → Int} {h t0 : Int}
theorem e_Has.kq (hT : e_Has kTy w) (hw : e_rf w w') {c k lo hi : Int} (ht : kTy c k = (lo, hi)) (hl : lo ≤ hi) (h1 : -2147483648 ≤ lo) (h2 : hi ≤ 2147483647) : w' c k = w c k := (kn1.ty (e_Has.get hT ht hl) h1 h2).rf hw
theorem kn1.of {x lo hi : Int} (hx : lo ≤ x ∧ x ≤ hi) (h1 : -2147483648 ≤ lo) (h2 : hi ≤ 2147483647) : kn1 x := by unfold kn1; omega
theorem kq_J {a j k : Int} (hT : e_Has kTy w) (hw : e_rf w w') (ha : 0 ≤ a ∧ a ≤ 3) (hj : 0 ≤ j ∧ j ≤ 5) (hk : 0 ≤ k ∧ k ≤ 9) : w' (17 * a + j + 97) k = w (17 * a + j + 97) k := by
  obtain rfl | rfl | rfl | rfl | rfl | rfl | rfl | rfl | rfl | rfl : k = 0 ∨ k = 1 ∨ k = 2 ∨ k = 3 ∨ k = 4 ∨ k = 5 ∨ k = 6 ∨ k = 7 ∨ k = 8 ∨ k = 9 := by omega
  · exact hT.kq hw (kJ_0 (a := a) (j := j) rfl ha hj) (by decide) (by decide) (by decide)
  · exact hT.kq hw (kJ_1 (a := a) (j := j) rfl ha hj) (by decide) (by decide) (by decide)
  · exact hT.kq hw (kJ_2 (a := a) (j := j) rfl ha hj) (by decide) (by decide) (by decide)
  · exact hT.kq hw (kJ_3 (a := a) (j := j) rfl ha hj) (by decide) (by decide) (by decide)
  · exact hT.kq hw (kJ_4 (a := a) (j := j) rfl ha hj) (by decide) (by decide) (by decide)
  · exact hT.kq hw (kJ_5 (a := a) (j := j) rfl ha hj) (by decide) (by decide) (by decide)
  · exact hT.kq hw (kJ_6 (a := a) (j := j) rfl ha hj) (by decide) (by decide) (by decide)
  · exact hT.kq hw (kJ_7 (a := a) (j := j) rfl ha hj) (by decide) (by decide) (by decide)
  · exact hT.kq hw (kJ_8 (a := a) (j := j) rfl ha hj) (by decide) (by decide) (by decide)
  · exact hT.kq hw (kJ_9 (a := a) (j := j) rfl ha hj) (by decide) (by decide) (by decide)
theorem kq_A {a k : Int} (hT : e_Has kTy w) (hw : e_rf w w') (ha : 0 ≤ a ∧ a ≤ 3) (hk : (8 ≤ k ∧ k ≤ 11) ∨ (13 ≤ k ∧ k ≤ 19)) : w' (17 * a + 86) k = w (17 * a + 86) k := by
  obtain rfl | rfl | rfl | rfl | rfl | rfl | rfl | rfl | rfl | rfl | rfl : k = 8 ∨ k = 9 ∨ k = 10 ∨ k = 11 ∨ k = 13 ∨ k = 14 ∨ k = 15 ∨ k = 16 ∨ k = 17 ∨ k = 18 ∨ k = 19 := by omega
  · exact hT.kq hw (kA_8 (a := a) rfl ha) (by decide) (by decide) (by decide)
  · exact hT.kq hw (kA_9 (a := a) rfl ha) (by decide) (by decide) (by decide)
  · exact hT.kq hw (kA_10 (a := a) rfl ha) (by decide) (by decide) (by decide)
  · exact hT.kq hw (kA_11 (a := a) rfl ha) (by decide) (by decide) (by decide)
  · exact hT.kq hw (kA_13 (a := a) rfl ha) (by decide) (by decide) (by decide)
  · exact hT.kq hw (kA_14 (a := a) rfl ha) (by decide) (by decide) (by decide)
  · exact hT.kq hw (kA_15 (a := a) rfl ha) (by decide) (by decide) (by decide)
  · exact hT.kq hw (kA_16 (a := a) rfl ha) (by decide) (by decide) (by decide)
  · exact hT.kq hw (kA_17 (a := a) rfl ha) (by decide) (by decide) (by decide)
  · exact hT.kq hw (kA_18 (a := a) rfl ha) (by decide) (by decide) (by decide)
  · exact hT.kq hw (kA_19 (a := a) rfl ha) (by decide) (by decide) (by decide)
theorem kq_T {t k : Int} (hT : e_Has kTy w) (hw : e_rf w w') (ht : 0 ≤ t ∧ t ≤ 15) (hk : (1 ≤ k ∧ k ≤ 7) ∨ k = 10 ∨ k = 11 ∨ k = 14 ∨ k = 15) : w' (6 * t + 154) k = w (6 * t + 154) k := by
  obtain rfl | rfl | rfl | rfl | rfl | rfl | rfl | rfl | rfl | rfl | rfl : k = 1 ∨ k = 2 ∨ k = 3 ∨ k = 4 ∨ k = 5 ∨ k = 6 ∨ k = 7 ∨ k = 10 ∨ k = 11 ∨ k = 14 ∨ k = 15 := by omega
  · exact hT.kq hw (kT_1 (t := t) rfl ht) (by decide) (by decide) (by decide)
  · exact hT.kq hw (kT_2 (t := t) rfl ht) (by decide) (by decide) (by decide)
  · exact hT.kq hw (kT_3 (t := t) rfl ht) (by decide) (by decide) (by decide)
  · exact hT.kq hw (kT_4 (t := t) rfl ht) (by decide) (by decide) (by decide)
  · exact hT.kq hw (kT_5 (t := t) rfl ht) (by decide) (by decide) (by decide)
  · exact hT.kq hw (kT_6 (t := t) rfl ht) (by decide) (by decide) (by decide)
  · exact hT.kq hw (kT_7 (t := t) rfl ht) (by decide) (by decide) (by decide)
  · exact hT.kq hw (kT_10 (t := t) rfl ht) (by decide) (by decide) (by decide)
  · exact hT.kq hw (kT_11 (t := t) rfl ht) (by decide) (by decide) (by decide)
  · exact hT.kq hw (kT_14 (t := t) rfl ht) (by decide) (by decide) (by decide)
  · exact hT.kq hw (kT_15 (t := t) rfl ht) (by decide) (by decide) (by decide)
theorem oK.rf {a : Int} (ha : 0 ≤ a ∧ a ≤ 3) (hT : e_Has kTy w) (q : oK w a) (hw : e_rf w w') : oK w' a := by
  unfold oK at q ⊢
  rw [kq_A hT hw ha (by omega)]
  exact ⟨q.1.rf hw, q.2.rf hw⟩
theorem aMs.rf {a n st : Int} (hT : e_Has kTy w) (hw : e_rf w w') (ha : 0 ≤ a ∧ a ≤ 3) (hn : n ≤ 6) (q : aMs w a n st) : aMs w' a n st := fun i g1 g2 => jq.eq (fun k g3 g4 => kq_J hT hw ha (by omega) (by omega)) (q i g1 g2)
theorem aT.rf {a : Int} (hT : e_Has kTy w) (hw : e_rf w w') (ha : 0 ≤ a ∧ a ≤ 3) (q : aT w a) : aT w' a := by
  unfold aT at q ⊢
  rw [kq_A (k := 8) hT hw ha (by omega), kq_A (k := 11) hT hw ha (by omega)]
  exact fun g => ⟨by rw [(q g).1.rf hw]; exact (q g).1, fun j g1 g2 => by have z := (q g).2 j g1 g2; rw [z.rf hw]; exact z⟩
theorem aH.rf {a : Int} (hT : e_Has kTy w) (hw : e_rf w w') (ha : 0 ≤ a ∧ a ≤ 3) (q : aH w a) : aH w' a := by
  unfold aH at q ⊢
  rw [kq_A (k := 14) hT hw ha (by omega), hT.kq hw (c := 19) (k := 1) (lo := 0) (hi := 32) rfl (by decide) (by decide) (by decide)]
  intro g
  have z := q g
  refine ⟨z.1, ?_⟩
  rw [(show kn1 (w 36 (w (17 * a + 86) 14)) from by have z2 := z.2; unfold kn1; omega).rf hw]
  exact z.2
theorem yD.rf {m y : Int} (hm : m ≤ 6) (hw : e_rf w w') (q : yD w m y) : yD w' m y := by
  obtain ⟨q1, q2, q3⟩ := q
  have e0 : w' 270 y = w 270 y := (kn1.of q1 (by decide) (by decide)).rf hw
  have e1 : w' 271 y = w 271 y := (kn1.of q2 (by decide) (by decide)).rf hw
  refine ⟨by rw [e0]; exact q1, by rw [e1]; exact q2, fun k g1 g2 => ?_⟩
  rw [e0] at g2
  have z := q3 k g1 g2
  rw [(show kn1 (w 269 (1000 * y + k)) from by unfold kn1; omega).rf hw]
  exact z
theorem yP.rf {a m y s : Int} {v v' : Int → Int} (hT : e_Has kTy w) (hw : e_rf w w') (ha : 0 ≤ a ∧ a ≤ 3) (hm : m ≤ 6) (hs : 0 ≤ s) (hy : yD w m y) (hv : ∀ j, 0 ≤ j → j < m → v' j = v j) (q : yP w a m y s v) : yP w' a m y s v' := by
  obtain ⟨y1, y2, y3⟩ := hy
  have e0 : w' 270 y = w 270 y := (kn1.of y1 (by decide) (by decide)).rf hw
  have e1 : w' 271 y = w 271 y := (kn1.of y2 (by decide) (by decide)).rf hw
  obtain ⟨N, q1, q2⟩ := q
  refine ⟨N, fun j g1 g2 => by rw [hv j g1 g2]; exact q1 j g1 g2, fun k g1 g2 j g3 g4 => ?_⟩
  rw [e0] at g2
  have z := y3 k (by omega) g2
  rw [(show kn1 (w 269 (1000 * y + k)) from by unfold kn1; omega).rf hw, e1, kq_J (k := 1) hT hw ha (by omega) (by omega), kq_J (k := 2) hT hw ha (by omega) (by omega)]
  exact q2 k g1 g2 j g3 g4
theorem aW.rf {a : Int} (hT : e_Has kTy w) (hw : e_rf w w') (ha : 0 ≤ a ∧ a ≤ 3) (q : aW w a) : aW w' a := by
  have hn := kn_joints hT ha
  unfold aW at q ⊢
  obtain ⟨p1, p2, p3⟩ := q
  rw [kq_A (k := 8) hT hw ha (by omega), kq_A (k := 11) hT hw ha (by omega), kq_A (k := 17) hT hw ha (by omega), kq_A (k := 18) hT hw ha (by omega), kq_A (k := 19) hT hw ha (by omega)]
  refine ⟨fun g => (p1 g).rf hn.2 hw, fun g1 g2 => (p2 g1 g2).rf hT hw ha hn.2 (by decide) (p1 g1) (fun j g3 g4 => kq_J hT hw ha (by omega) (by decide)), fun g => ?_⟩
  have z := p3 g
  have zy := p1 z.2.1
  refine ⟨z.1, z.2.1, ?_, z.2.2.2.rf hT hw ha hn.2 g zy (fun j g3 g4 => kq_J hT hw ha (by omega) (by decide))⟩
  rw [(kn1.of zy.1 (by decide) (by decide)).rf hw]
  exact z.2.2.1
theorem aR.rf {a : Int} (hT : e_Has kTy w) (hw : e_rf w w') (ha : 0 ≤ a ∧ a ≤ 3) (q : aR w a) : aR w' a := by
  have hn := kn_joints hT ha
  obtain ⟨q1, q2, q3, q4, q5, q6⟩ := q
  refine ⟨q1.rf ha hT hw, q2.rf ha hT hw, ?_, q4.rf hT hw ha, q5.rf hT hw ha, q6.rf hT hw ha⟩
  rw [kq_A (k := 8) hT hw ha (by omega), kq_A (k := 11) hT hw ha (by omega)]
  exact q3.rf hT hw ha hn.2
theorem fK.rf (hT : e_Has kTy w) (hw : e_rf w w') (q : fK w) : fK w' := by
  have e0 : w' 19 0 = w 19 0 := hT.kq hw (lo := 0) (hi := 4) rfl (by decide) (by decide) (by decide)
  have e1 : w' 19 1 = w 19 1 := hT.kq hw (lo := 0) (hi := 32) rfl (by decide) (by decide) (by decide)
  have b1 := e_Has.get hT (c := 19) (k := 1) (lo := 0) (hi := 32) (kt_o rfl) (by decide)
  have b0 := e_Has.get hT (c := 19) (k := 0) (lo := 0) (hi := 4) (kt_o rfl) (by decide)
  refine ⟨fun b g1 g2 => ?_, fun p g1 g2 => ?_⟩
  · rw [e0] at g2
    obtain ⟨z1, z2⟩ := q.1 b g1 g2
    have e2 : w' 35 b = w 35 b := (kn1.of z1 (by decide) (by decide)).rf hw
    refine ⟨by rw [e2]; exact z1, fun i g3 g4 => ?_⟩
    rw [e2] at g4
    obtain ⟨z3, z4⟩ := z2 i g3 g4
    have e3 : w' (b + 31) i = w (b + 31) i := (show kn1 _ from by unfold kn1; omega).rf hw
    have e4 : w' 36 (w (b + 31) i) = w 36 (w (b + 31) i) := (show kn1 _ from by unfold kn1; omega).rf hw
    rw [e3, e1, e4]
    exact ⟨z3, z4⟩
  · rw [e1] at g2
    obtain ⟨z1, z2, z3⟩ := q.2 p g1 g2
    have e2 : w' 36 p = w 36 p := (kn1.of z1 (by decide) (by decide)).rf hw
    refine ⟨by rw [e2]; exact z1, fun g => ?_, fun g => ?_⟩
    · rw [e2] at g
      obtain ⟨z4, z5⟩ := z2 g
      rw [e2, e0, z5.rf hw]
      exact ⟨z4, z5⟩
    · rw [e2] at g
      obtain ⟨z4, z5⟩ := z3 g
      rw [z4.rf hw, z5.rf hw]
      exact ⟨z4, z5⟩
theorem pF.rf (hT : e_Has kTy w) (hw : e_rf w w') (q : pF w) : pF w' := fun p g1 g2 g3 => by
  rw [hT.kq hw (c := 16) (k := p) (lo := 0) (hi := 1) rfl (by decide) (by decide) (by decide)] at g3
  have z := q p g1 g2 g3
  rw [z.rf hw]
  exact z
theorem lgK.rf (hT : e_Has kTy w) (hw : e_rf w w') (q : lgK w) : lgK w' := fun i g1 g2 g3 => by
  rw [hT.kq hw (c := 74) (k := 1) (lo := 0) (hi := 2147483647) rfl (by decide) (by decide) (by decide)] at g3
  have z := q i g1 g2 g3
  rw [z.rf hw]
  exact z
theorem kn_cd {x : Int} (hx : isCd x) : kn1 x := by unfold isCd at hx; unfold kn1; omega
theorem kCo.rf (hT : e_Has kTy w) (hw : e_rf w w') (q : kCo w OP OD CL) : kCo w' OP OD CL := fun a g1 g2 => by
  obtain ⟨q1, q2, q3⟩ := q a g1 g2
  have hc := q1.1
  rw [(kn_cd hc).rf hw]
  refine ⟨⟨hc, fun p => ?_⟩, q2, ?_⟩
  · rw [hT.kq hw (kD_0 hc) (by decide) (by decide) (by decide), hT.kq hw (kD2 p rfl hc) (by decide) (by decide) (by decide)]
    exact q1.2 p
  · unfold kCe at q3 ⊢
    rw [hT.kq hw (kD_1 hc) (by decide) (by decide) (by decide)]
    exact ⟨fun n g3 g4 => by rw [hT.kq hw (kD1 n rfl hc) (by decide) (by decide) (by decide)]; exact q3.1 n g3 g4, q3.2⟩
theorem gK.rf {hh : Int} (hw : e_rf w w') (q : gK w hh) : gK w' hh := fun j g1 g2 g3 => by
  have z := q j g1 g2 g3
  rw [z.rf hw]
  exact z
theorem tS.rf {t H : Int} {op : Int → Int} (hT : e_Has kTy w) (hw : e_rf w w') (ht : 0 ≤ t ∧ t ≤ 15) (q : tS w (6 * t + 154) op H) : tS w' (6 * t + 154) op H := by
  have e15 := kq_T (k := 15) hT hw ht (by omega)
  have e4 := kq_T (k := 4) hT hw ht (by omega)
  obtain ⟨q0, q1, q2⟩ := q
  refine ⟨by rw [e15]; exact q0, fun i g1 g2 => ?_, fun i g1 g2 => ?_⟩
  · rw [e4] at g2
    obtain ⟨z1, z2, z3⟩ := q1 i g1 g2
    have a1 : w' (6 * t + 154 + 1) i = w (6 * t + 154 + 1) i := (show kn1 _ from z1).rf hw
    have a2 : w' (6 * t + 154 + 2) i = w (6 * t + 154 + 2) i := (show kn1 _ from by clear z2; unfold kn1; omega).rf hw
    rw [a1, a2]
    exact ⟨z1, z2, z3⟩
  · obtain ⟨z1, z2, z3⟩ := q2 i g1 g2
    have a3 : w' (6 * t + 154 + 3) i = w (6 * t + 154 + 3) i := (kn1.of z1.1 (by decide) (by decide)).rf hw
    have a4 : w' (6 * t + 154 + 4) i = w (6 * t + 154 + 4) i := (kn1.of z2.1 (by decide) (by decide)).rf hw
    refine ⟨by rw [a3]; exact z1, by rw [a4]; exact z2, ?_⟩
    rw [a4]
    intro g
    have y := z3 g
    rw [(show kn1 (w (6 * t + 154 + 5) i) from y.1).rf hw]
    exact y
theorem tQ.rf {hh t : Int} (hT : e_Has kTy w) (hw : e_rf w w') (hC : ∀ a, 0 ≤ a → a ≤ 3 → isCd (w (17 * a + 86) 7)) (ht : 0 ≤ t ∧ t ≤ 15) (q : tQ w OP CL hh t0 t) : tQ w' OP CL hh t0 t := by
  have e1 := kq_T (k := 1) hT hw ht (by omega)
  have e2 := kq_T (k := 2) hT hw ht (by omega)
  have e3 := kq_T (k := 3) hT hw ht (by omega)
  have e11 := kq_T (k := 11) hT hw ht (by omega)
  obtain ⟨⟨p1, p2, p3⟩, q2⟩ := q
  refine ⟨⟨by rw [e1, e2]; exact p1, fun g => ?_, fun g => ?_⟩, fun g1 g2 => ?_⟩
  · rw [e1] at g
    obtain ⟨z1, z2⟩ := p2 g
    rw [z1.rf hw, z2.rf hw]
    exact ⟨z1, z2⟩
  · rw [e1] at g
    obtain ⟨z1, z2⟩ := p3 g
    rw [(kn1.of z1 (by decide) (by decide)).rf hw, z2.rf hw]
    exact ⟨z1, z2⟩
  · rw [e1] at g1 g2
    obtain ⟨⟨⟨H, s1⟩, s2⟩, q3⟩ := q2 g1 g2
    have ha := p1 g1 g2
    have hb := e_Has.get hT (c := 6 * t + 154) (k := 2) (lo := -1) (hi := 3) (kT_2 (t := t) rfl ht) (by decide)
    have hc := hC _ ha hb.2
    rw [e2, e3, (kn_cd hc).rf hw, hT.kq hw (kD_1 hc) (by decide) (by decide) (by decide)]
    refine ⟨⟨⟨H, s1.rf hT hw ht⟩, ?_⟩, q3⟩
    rw [e11]
    intro g
    obtain ⟨z1, z2⟩ := s2 g
    have hr := e_Has.get hT (kD_1 hc) (by decide)
    rw [(show kn1 (w (6 * t + 154) 12) from by unfold kn1; omega).rf hw, z2.rf hw]
    exact ⟨z1, z2⟩
theorem kI.rf (hw : e_rf w w') (q : kI w OP OD CL h t0) : kI w' OP OD CL h t0 := by
  have hC := q.cd
  obtain ⟨q1, q2, q3, q4, q5, q6, q7, q8, q9⟩ := q
  refine ⟨q1.krf hw, fun a g1 g2 => (q2 a g1 g2).rf q1 hw ⟨g1, g2⟩, q3.rf q1 hw, q4.rf q1 hw, q5.rf q1 hw, fun g a g1 g2 g3 => ?_, q7.rf q1 hw, q8.rf hw, fun t g1 g2 => (q9 t g1 g2).rf q1 hw hC ⟨g1, g2⟩⟩
  rw [q1.kq hw (c := 74) (k := 3) (lo := 0) (hi := 1) rfl (by decide) (by decide) (by decide)] at g
  rw [q1.kq hw (c := 0) (k := 11) (lo := 0) (hi := 4) rfl (by decide) (by decide) (by decide)] at g3
  rw [kq_A (k := 11) q1 hw ⟨g1, g2⟩ (by omega)]
  exact q6 g a g1 g2 g3
end Kx
end
end
-- part cy
section
noncomputable section
/-! the class: a row of the book is carried out -/
section Ky
variable {w w' : eW} {OP OD CL : Int → Int → Int} {h t0 : Int}
/-- a row of the book may be carried out -/
def rwC (w : eW) (x a b c : Int) : Prop :=
  (0 ≤ x ∧ x ≤ 11) ∧ (x = 0 → (0 ≤ a ∧ a ≤ 3) ∧ 0 ≤ b ∧ b < w (w (17 * a + 86) 7) 1) ∧ (x = 2 ∨ x = 3 → 0 ≤ a ∧ a ≤ 63) ∧ (x = 4 → 0 ≤ a ∧ a ≤ 7) ∧ (x = 6 → -1 ≤ a ∧ a ≤ 3) ∧ (x = 7 → 0 ≤ a ∧ a ≤ 3) ∧
  (x = 8 → (0 ≤ a ∧ a ≤ 3) ∧ (0 ≤ b ∧ b < w (17 * a + 86) 8) ∧ w (17 * a + 86) 11 = 0 ∧ w (17 * a + b + 97) 1 ≤ c ∧ c ≤ w (17 * a + b + 97) 2) ∧ (x = 9 → 0 ≤ a ∧ a ≤ 5) ∧
  (x = 10 → (0 ≤ a ∧ a ≤ 3) ∧ (0 ≤ b ∧ b ≤ 59) ∧ w (17 * a + 86) 11 = 0 ∧ yD w (w (17 * a + 86) 8) b ∧ yP w a (w (17 * a + 86) 8) b 0 (fun j => w (17 * a + j + 97) 7)) ∧
  (x = 11 → (0 ≤ a ∧ a ≤ 3) ∧ 0 ≤ w (17 * a + 86) 17 ∧ w (17 * a + 86) 11 = 0 ∧ w (17 * a + 86) 19 = 0 ∧ ¬ w 74 3 = 0)
theorem aR.give {a y : Int} (ha : 0 ≤ a ∧ a ≤ 3) (hn : w (17 * a + 86) 8 ≤ 6) (hf : ∀ c k, dA a c k → ¬ (c = 17 * a + 86 ∧ (k = 17 ∨ k = 19)) → w' c k = w c k) (hs : w (17 * a + 86) 11 = 0) (h17 : w' (17 * a + 86) 17 = y) (hy : yD w (w (17 * a + 86) 8) y) (hp : yP w a (w (17 * a + 86) 8) y 0 (fun j => w (17 * a + j + 97) 7)) (q : aR w a) : aR w' a := by
  obtain ⟨q1, q2, q3, q4, q5, q6⟩ := q
  have e8 : w' (17 * a + 86) 8 = w (17 * a + 86) 8 := hf _ _ (by unfold dA; omega) (by omega)
  have e11 : w' (17 * a + 86) 11 = w (17 * a + 86) 11 := hf _ _ (by unfold dA; omega) (by omega)
  have e18 : w' (17 * a + 86) 18 = w (17 * a + 86) 18 := hf _ _ (by unfold dA; omega) (by omega)
  have hp' : ∀ c k, 269 ≤ c → c ≤ 271 → w' c k = w c k := fun c k g1 g2 => hf c k (by unfold dA; omega) (by omega)
  refine ⟨q1.eq (fun c k g => hf c k (by unfold dA; omega) (by omega)), q2.eq (fun c k g => hf c k (by unfold dA; omega) (by omega)), ?_, q4.eq hn (fun c k g => hf c k (by unfold dA; omega) (by omega)), q5.eq (fun c k g => hf c k (by unfold dA; omega) (by omega)), ?_⟩
  · rw [e8, e11]
    exact q3.eq hn (fun c k g1 g2 g3 g4 => hf c k (by unfold dA; omega) (by omega))
  · unfold aW at q6 ⊢
    rw [e8, h17, e18]
    refine ⟨fun _ => hy.eq hp', fun _ _ => hp.eq hp' (fun j g1 g2 => ⟨hf _ _ (by unfold dA; omega) (by omega), hf _ _ (by unfold dA; omega) (by omega)⟩) (fun j g1 g2 => hf _ _ (by unfold dA; omega) (by omega)), fun g => ?_⟩
    have := (q6.2.2 g).1
    omega
theorem kI.give {w1 : eW} {a y : Int} (q : kI w OP OD CL h t0) (hT : e_Has kTy w') (ha : 0 ≤ a ∧ a ≤ 3) (hs : w (17 * a + 86) 11 = 0) (hy : yD w (w (17 * a + 86) 8) y) (hp : yP w a (w (17 * a + 86) 8) y 0 (fun j => w (17 * a + j + 97) 7)) (h1 : e_up w (17 * a + 86) 17 y = w1) (h2 : e_up w1 (17 * a + 86) 19 0 = w') : kI w' OP OD CL h t0 := by
  have e : ∀ c k, ¬ (c = 17 * a + 86 ∧ (k = 17 ∨ k = 19)) → w' c k = w c k := fun c k g => by
    rw [← h2, e_up_ne _ _ (by omega), ← h1, e_up_ne _ _ (by omega)]
  have h17 : w' (17 * a + 86) 17 = y := by rw [← h2, e_up_ne _ _ (by omega), ← h1, e_up_eq]
  refine kI.ar q hT ha (fun c k g => e c k (fun g2 => g (Or.inr (Or.inr (Or.inr (Or.inl ⟨g2.1, by omega⟩)))))) ?_ ((q.arm ha.1 ha.2).give ha (kn_joints q.1 ha).2 (fun c k _ g => e c k g) hs h17 hy hp) (fun _ _ => by rw [e _ _ (by omega)]; exact hs)
  exact q.lgk.fr (S := fun c k => c = 17 * a + 86 ∧ (k = 17 ∨ k = 19)) (fun c k g => e c k g) (by omega) (fun k => by omega)
theorem hm_272 {k : Int} : kHm 272 k := by unfold kHm; simp
end Ky
theorem c_97 {d : Nat} (hd : 23 ≤ d) {w : eW} (hT : e_Has kTy w) {a y : Int} (ga : 0 ≤ a ∧ a ≤ 3) (gy : 0 ≤ y ∧ y ≤ 59) {OP OD CL : Int → Int → Int} {h t0 : Int} (q : kI w OP OD CL h t0) (hs : w (17 * a + 86) 11 = 0) (hy : yD w (w (17 * a + 86) 8) y) (hp : yP w a (w (17 * a + 86) 8) y 0 (fun j => w (17 * a + j + 97) 7)) : e_Ok 20 elay kcode eI d 97 (0, [(0, (1, 262)), (1, (1, 17 * a + 86)), (2, (0, y))], [], w) (fun r w' => ∃ z : Int, r = [(0, z)] ∧ e_Has kTy w' ∧ (e_fr kNq w w' ∧ w' 74 0 = w 74 0 ∧ w' 74 1 = w 74 1) ∧ kI w' OP OD CL h t0) := by
  obtain ⟨d, rfl⟩ : ∃ e, d = e + 1 := ⟨d - 1, by omega⟩
  refine e_Ok.ps2 (x := (0, y)) (y := (1, 17 * a + 86)) (q := 2) 2 rfl ?_
  refine e_Ok.putf rfl (lA0 (a := a) rfl ga) rfl rfl ?_
  generalize hw1 : e_up w (17 * a + 86) 17 y = w1
  have hT3 : e_Has kTy w1 := e_Has.upr hT hw1 (kA_17 (a := a) rfl ga) (by omega)
  refine e_Ok.ps2 (x := (0, 0)) (y := (1, 17 * a + 86)) (q := 7) 2 rfl ?_
  refine e_Ok.putf rfl (lA0 (a := a) rfl ga) rfl rfl ?_
  generalize hw4 : e_up w1 (17 * a + 86) 19 0 = w4
  have hT6 : e_Has kTy w4 := e_Has.upr hT3 hw4 (kA_19 (a := a) rfl ga) (by omega)
  refine e_Ok.ps2 (x := (0, y)) (y := (1, 262)) (q := 12) 2 rfl ?_
  refine e_Ok.callV rfl (e_dq hd rfl) rfl rfl rfl rfl (c_95 (e_dq hd rfl) (m := w (17 * a + 86) 8) hT6 (by omega) (fun g => hy.eq (fun c k g1 g2 => by rw [← hw4, e_up_ne _ _ (by omega), ← hw1, e_up_ne _ _ (by omega)]))) (fun r7 w8 h9 => ?_)
  obtain ⟨z10, rfl, rfl, q11r, q11x⟩ := h9
  refine e_Ok.nrm (q := 15) (st' := [(0, z10)]) rfl rfl ?_
  refine e_Ok.rets rfl rfl ?_
  exact ⟨_, rfl, hT6, ⟨(show e_fr kNq w w4 from e_fr.up (show e_fr kNq w w1 from e_fr.up (e_fr.refl w) hw1 (by unfold kNq; omega)) hw4 (by unfold kNq; omega)), (e_uq hw4 (Or.inr (by first | decide | omega)) (e_uq hw1 (Or.inr (by first | decide | omega)) rfl)), (e_uq hw4 (Or.inr (by first | decide | omega)) (e_uq hw1 (Or.inr (by first | decide | omega)) rfl))⟩, kI.give q hT6 ga hs hy hp hw1 hw4⟩
theorem no_cy_0 {k : Int} : ¬ kPo 74 k := by unfold kPo; omega
theorem no_cy_1 {k : Int} : ¬ kCh 74 k := by unfold kCh; omega
set_option maxHeartbeats 4000000 in
theorem c_256 {d : Nat} (hd : 27 ≤ d) {w : eW} (hT : e_Has kTy w) {x a b c : Int} (ga : -2147483648 ≤ a ∧ a ≤ 2147483647) (gb : -2147483648 ≤ b ∧ b ≤ 2147483647) (gc : -2147483648 ≤ c ∧ c ≤ 2147483647) {OP OD CL : Int → Int → Int} {h t0 : Int} (q : kI w OP OD CL h t0) (h0 : 0 ≤ h) (he : w 74 1 ≤ 2147000000) (hR : rwC w x a b c) : e_Ok 20 elay kcode eI d 256 (0, [(0, (1, 0)), (1, (0, x)), (2, (0, a)), (3, (0, b)), (4, (0, c))], [], w) (fun r w' => ∃ z : Int, r = [(0, z)] ∧ e_Has kTy w' ∧ (e_fr kNw w w' ∧ w' 74 0 = w 74 0) ∧ kI w' OP OD CL h t0 ∧ w 74 1 ≤ w' 74 1 ∧ w' 74 1 ≤ w 74 1 + 16 ∧ aQ w w') := by
  obtain ⟨d, rfl⟩ : ∃ e, d = e + 1 := ⟨d - 1, by omega⟩
  have h74 := e_Has.get hT (c := 74) (k := 1) (lo := 0) (hi := 2147483647) (kt_o rfl) (by decide)
  have hx := hR.1
  refine e_Ok.ps1 (x := (0, x)) (q := 1) 1 rfl ?_
  have hs2 : ∀ x : Int, 0 ≤ x ∧ x ≤ 11 → (x = 0) ∨ (x = 1) ∨ (x = 2) ∨ (x = 3) ∨ (x = 4) ∨ (x = 5) ∨ (x = 6) ∨ (x = 7) ∨ (x = 8) ∨ (x = 9) ∨ (x = 10) ∨ (x = 11) := fun x h => by omega
  obtain h1 | h1 | h1 | h1 | h1 | h1 | h1 | h1 | h1 | h1 | h1 | h1 := hs2 (x) (by omega)
  · refine e_Ok.swk (tg := 64) rfl (by rw [h1]; rfl) ?_
    have hr := hR.2.1 (by omega)
    refine e_Ok.run (t' := (65, [(0, (1, 0)), (1, (0, x)), (2, (0, a)), (3, (0, b)), (4, (0, c))], [(1, 0)], w)) 1 rfl ?_
    refine e_Ok.getr (z := 8) rfl (el_o rfl) rfl rfl (e_Has.eq hT (kt_o rfl)) ⟨by decide, by decide⟩ ?_
    refine e_Ok.ps2 (x := (0, b)) (y := (0, a)) (q := 70) 2 rfl ?_
    refine e_Ok.callV rfl (e_dq hd rfl) rfl rfl rfl rfl (c_37 (e_dq hd rfl) hT hr.1 q h0 hr.2) (fun r3 w4 h5 => ?_)
    obtain ⟨z6, rfl, q7T, q7x, q7r, q7f⟩ := h5
    have q7F : e_fr kNq w w4 ∧ w4 74 0 = w 74 0 ∧ w4 74 1 = w 74 1 := by
      rcases q7f with g | g
      · rw [g.2]; exact ⟨e_fr.refl w, rfl, rfl⟩
      · exact ⟨g.2.2.mono (fun c k q => nq_kBg (by omega) q), g.2.2 _ _ (by unfold kBg; omega), g.2.2 _ _ (by unfold kBg; omega)⟩
    clear q7f
    refine e_Ok.nrm (q := 73) (st' := [(0, z6)]) rfl rfl ?_
    refine e_Ok.rets rfl rfl ?_
    exact ⟨_, rfl, q7T, ⟨(q7F.1.mono (fun c k q => nq_nw q)), q7F.2.1⟩, q7x, by have g := q7F.2.2; omega, by have g := q7F.2.2; omega, aQ.q q7F.1 hT q7T⟩
  · refine e_Ok.swk (tg := 203) rfl (by rw [h1]; rfl) ?_
    refine e_Ok.run (t' := (204, [(0, (1, 0)), (1, (0, x)), (2, (0, a)), (3, (0, b)), (4, (0, c))], [(0, 0)], w)) 1 rfl ?_
    refine e_Ok.rets rfl rfl ?_
    exact ⟨_, rfl, hT, ⟨e_fr.refl w, rfl⟩, q, by omega, by omega, aQ.refl w⟩
  · refine e_Ok.swk (tg := 74) rfl (by rw [h1]; rfl) ?_
    have hr := hR.2.2.1 (by omega)
    refine e_Ok.run (t' := (75, [(0, (1, 0)), (1, (0, x)), (2, (0, a)), (3, (0, b)), (4, (0, c))], [(1, 0)], w)) 1 rfl ?_
    refine e_Ok.getr (z := 10) rfl (el_o rfl) rfl rfl (e_Has.eq hT (kt_o rfl)) ⟨by decide, by decide⟩ ?_
    refine e_Ok.ps2 (x := (0, b)) (y := (0, a)) (q := 80) 2 rfl ?_
    refine e_Ok.callV rfl (e_dq hd rfl) rfl rfl rfl rfl (c_113 (e_dq hd rfl) hT hr gb q.pf) (fun r8 w9 h10 => ?_)
    obtain ⟨z11, rfl, q12f, q12T, q12r, q12x⟩ := h10
    refine e_Ok.nrm (q := 83) (st' := [(0, z11)]) rfl rfl ?_
    refine e_Ok.rets rfl rfl ?_
    exact ⟨_, rfl, q12T, ⟨(q12f.mono (fun c k q => nw_kPo q)), (q12f _ _ (by unfold kPo; omega))⟩, (kI.po q q12T (e_fr.mono q12f (fun c k g => ph_kPo g)) q12x), by have g := q12f 74 1 no_cy_0; omega, by have g := q12f 74 1 no_cy_0; omega, aQ.q (q12f.mono (fun c k q => nq_kPo q)) hT q12T⟩
  · refine e_Ok.swk (tg := 84) rfl (by rw [h1]; rfl) ?_
    have hr := hR.2.2.1 (by omega)
    refine e_Ok.run (t' := (85, [(0, (1, 0)), (1, (0, x)), (2, (0, a)), (3, (0, b)), (4, (0, c))], [(1, 0)], w)) 1 rfl ?_
    refine e_Ok.getr (z := 10) rfl (el_o rfl) rfl rfl (e_Has.eq hT (kt_o rfl)) ⟨by decide, by decide⟩ ?_
    refine e_Ok.ps3 (x := (0, c)) (y := (0, b)) (z := (0, a)) (q := 92) 3 rfl ?_
    have hJ15 : ∀ m14 : Int, 0 ≤ m14 ∧ m14 ≤ 1 → e_Ok 20 elay kcode eI (d + 1) 256 (100, [(0, (1, 0)), (1, (0, x)), (2, (0, a)), (3, (0, b)), (4, (0, c))], [(0, m14), (0, b), (0, a), (1, 10)], w) (fun r w' => ∃ z : Int, r = [(0, z)] ∧ e_Has kTy w' ∧ (e_fr kNw w w' ∧ w' 74 0 = w 74 0) ∧ kI w' OP OD CL h t0 ∧ w 74 1 ≤ w' 74 1 ∧ w' 74 1 ≤ w 74 1 + 16 ∧ aQ w w') := by
      intro m14 m14r
      refine e_Ok.callV rfl (e_dq hd rfl) rfl rfl rfl rfl (c_114 (e_dq hd rfl) hT hr gb (by omega) q.pf) (fun r16 w17 h18 => ?_)
      obtain ⟨z19, rfl, q20f, q20T, q20r, q20x⟩ := h18
      show e_Ok 20 elay kcode eI (d + 1) 256 (103, [(0, (1, 0)), (1, (0, x)), (2, (0, a)), (3, (0, b)), (4, (0, c))], [(0, z19)], w17) _
      refine e_Ok.rets rfl rfl ?_
      exact ⟨_, rfl, q20T, ⟨(q20f.mono (fun c k q => nw_kPo q)), (q20f _ _ (by unfold kPo; omega))⟩, (kI.po q q20T (e_fr.mono q20f (fun c k g => ph_kPo g)) q20x), by have g := q20f 74 1 no_cy_0; omega, by have g := q20f 74 1 no_cy_0; omega, aQ.q (q20f.mono (fun c k q => nq_kPo q)) hT q20T⟩
    refine e_Ok.if1 rfl (fun h13 => ?_) (fun h13 => ?_)
    · exact e_Ok.run 1 rfl (hJ15 0 (by omega))
    · exact e_Ok.run 2 rfl (hJ15 1 (by omega))
  · refine e_Ok.swk (tg := 104) rfl (by rw [h1]; rfl) ?_
    have hr := hR.2.2.2.1 (by omega)
    refine e_Ok.run (t' := (105, [(0, (1, 0)), (1, (0, x)), (2, (0, a)), (3, (0, b)), (4, (0, c))], [(1, 0)], w)) 1 rfl ?_
    refine e_Ok.getr (z := 74) rfl (el_o rfl) rfl rfl (e_Has.eq hT (kt_o rfl)) ⟨by decide, by decide⟩ ?_
    refine e_Ok.ps2 (x := (0, b)) (y := (0, a)) (q := 110) 2 rfl ?_
    have hJ23 : ∀ m22 : Int, 0 ≤ m22 ∧ m22 ≤ 1 → e_Ok 20 elay kcode eI (d + 1) 256 (118, [(0, (1, 0)), (1, (0, x)), (2, (0, a)), (3, (0, b)), (4, (0, c))], [(0, m22), (0, a), (1, 74)], w) (fun r w' => ∃ z : Int, r = [(0, z)] ∧ e_Has kTy w' ∧ (e_fr kNw w w' ∧ w' 74 0 = w 74 0) ∧ kI w' OP OD CL h t0 ∧ w 74 1 ≤ w' 74 1 ∧ w' 74 1 ≤ w 74 1 + 16 ∧ aQ w w') := by
      intro m22 m22r
      refine e_Ok.run (t' := (120, [(0, (1, 0)), (1, (0, x)), (2, (0, a)), (3, (0, b)), (4, (0, c))], [(0, c), (0, m22), (0, a), (1, 74)], w)) 1 rfl ?_
      have hJ26 : ∀ m25 : Int, 0 ≤ m25 ∧ m25 ≤ 1 → e_Ok 20 elay kcode eI (d + 1) 256 (128, [(0, (1, 0)), (1, (0, x)), (2, (0, a)), (3, (0, b)), (4, (0, c))], [(0, m25), (0, m22), (0, a), (1, 74)], w) (fun r w' => ∃ z : Int, r = [(0, z)] ∧ e_Has kTy w' ∧ (e_fr kNw w w' ∧ w' 74 0 = w 74 0) ∧ kI w' OP OD CL h t0 ∧ w 74 1 ≤ w' 74 1 ∧ w' 74 1 ≤ w 74 1 + 16 ∧ aQ w w') := by
        intro m25 m25r
        refine e_Ok.callV rfl (e_dq hd rfl) rfl rfl rfl rfl (c_28 hT hr (by omega) (by omega)) (fun r27 w28 h29 => ?_)
        obtain ⟨z30, rfl, q31f, q31T, q31r⟩ := h29
        show e_Ok 20 elay kcode eI (d + 1) 256 (131, [(0, (1, 0)), (1, (0, x)), (2, (0, a)), (3, (0, b)), (4, (0, c))], [(0, z30)], w28) _
        refine e_Ok.rets rfl rfl ?_
        exact ⟨_, rfl, q31T, ⟨(q31f.mono (fun c k q => nw_kCh q)), (q31f _ _ (by unfold kCh; omega))⟩, (kI.hm q q31T (e_fr.mono q31f (fun c k g => hm_kCh g))), by have g := q31f 74 1 no_cy_1; omega, by have g := q31f 74 1 no_cy_1; omega, aQ.q (q31f.mono (fun c k q => nq_kCh q)) hT q31T⟩
      refine e_Ok.if1 rfl (fun h24 => ?_) (fun h24 => ?_)
      · exact e_Ok.run 1 rfl (hJ26 0 (by omega))
      · exact e_Ok.run 2 rfl (hJ26 1 (by omega))
    refine e_Ok.if1 rfl (fun h21 => ?_) (fun h21 => ?_)
    · exact e_Ok.run 1 rfl (hJ23 0 (by omega))
    · exact e_Ok.run 2 rfl (hJ23 1 (by omega))
  · refine e_Ok.swk (tg := 132) rfl (by rw [h1]; rfl) ?_
    refine e_Ok.run (t' := (133, [(0, (1, 0)), (1, (0, x)), (2, (0, a)), (3, (0, b)), (4, (0, c))], [(1, 0)], w)) 1 rfl ?_
    refine e_Ok.getr (z := 74) rfl (el_o rfl) rfl rfl (e_Has.eq hT (kt_o rfl)) ⟨by decide, by decide⟩ ?_
    refine e_Ok.ps1 (x := (0, a)) (q := 137) 1 rfl ?_
    refine e_Ok.callV rfl (e_dq hd rfl) rfl rfl rfl rfl (c_33_b (e_dq hd rfl) hT ga (by omega)) (fun r32 w33 h34 => ?_)
    obtain ⟨z35, rfl, q36f, q36T, q36r, q36x⟩ := h34
    refine e_Ok.nrm (q := 140) (st' := [(0, z35)]) rfl rfl ?_
    refine e_Ok.rets rfl rfl ?_
    exact ⟨_, rfl, q36T, ⟨(q36f.mono (fun c k q => nw_kPw q)), (q36f _ _ (by unfold kPw; omega))⟩, (kI.pon q q36T q36f q36x.2 (q36x.1.2 q.lgk)), by have g := q36x.1.1; omega, by have g := q36x.1.1; omega, aQ.q (q36f.mono (fun c k q => nq_kPw q)) hT q36T⟩
  · refine e_Ok.swk (tg := 141) rfl (by rw [h1]; rfl) ?_
    have hr := hR.2.2.2.2.1 (by omega)
    refine e_Ok.run (t' := (143, [(0, (1, 0)), (1, (0, x)), (2, (0, a)), (3, (0, b)), (4, (0, c))], [(0, a), (1, 0)], w)) 2 rfl ?_
    refine e_Ok.callV rfl (e_dq hd rfl) rfl rfl rfl rfl (c_257 (e_dq hd rfl) hT hr q he) (fun r37 w38 h40 => ?_)
    obtain ⟨z41, rfl, q42T, q42f, q42x, q42e⟩ := h40
    refine e_Ok.nrm (q := 146) (st' := [(0, z41)]) rfl rfl ?_
    refine e_Ok.rets rfl rfl ?_
    exact ⟨_, rfl, q42T, ⟨(q42f.1.mono (fun c k q => nq_nw q)), q42f.2⟩, q42x, by omega, by omega, aQ.q q42f.1 hT q42T⟩
  · refine e_Ok.swk (tg := 147) rfl (by rw [h1]; rfl) ?_
    have hr := hR.2.2.2.2.2.1 (by omega)
    refine e_Ok.run (t' := (148, [(0, (1, 0)), (1, (0, x)), (2, (0, a)), (3, (0, b)), (4, (0, c))], [(1, 0)], w)) 1 rfl ?_
    refine e_Ok.getr (z := 8) rfl (el_o rfl) rfl rfl (e_Has.eq hT (kt_o rfl)) ⟨by decide, by decide⟩ ?_
    refine e_Ok.ps1 (x := (0, a)) (q := 152) 1 rfl ?_
    refine e_Ok.callV rfl (e_dq hd rfl) rfl rfl rfl rfl (c_38 hT hr q) (fun r43 w44 h45 => ?_)
    obtain ⟨z46, rfl, q47T, q47f, q47x⟩ := h45
    refine e_Ok.nrm (q := 155) (st' := [(0, z46)]) rfl rfl ?_
    refine e_Ok.rets rfl rfl ?_
    exact ⟨_, rfl, q47T, ⟨(q47f.1.mono (fun c k q => nq_nw q)), q47f.2.1⟩, q47x, by have g := q47f.2.2; omega, by have g := q47f.2.2; omega, aQ.q q47f.1 hT q47T⟩
  · refine e_Ok.swk (tg := 156) rfl (by rw [h1]; rfl) ?_
    have hr := hR.2.2.2.2.2.2.1 (by omega)
    refine e_Ok.run (t' := (161, [(0, (1, 0)), (1, (0, x)), (2, (0, a)), (3, (0, b)), (4, (0, c))], [(0, c), (0, b), (0, a), (1, 0)], w)) 4 rfl ?_
    refine e_Ok.callV rfl (e_dq hd rfl) rfl rfl rfl rfl (c_258 (e_dq hd rfl) hT hr.1 hr.2.1 gc q hr.2.2.1 hr.2.2.2) (fun r48 w49 h50 => ?_)
    obtain ⟨z51, rfl, q52T, q52f, q52x, q52a⟩ := h50
    refine e_Ok.nrm (q := 164) (st' := [(0, z51)]) rfl rfl ?_
    refine e_Ok.rets rfl rfl ?_
    exact ⟨_, rfl, q52T, ⟨q52f.1, q52f.2.1⟩, q52x, by have g := q52f.2.2; omega, by have g := q52f.2.2; omega, q52a⟩
  · refine e_Ok.swk (tg := 165) rfl (by rw [h1]; rfl) ?_
    have hr := hR.2.2.2.2.2.2.2.1 (by omega)
    refine e_Ok.run (t' := (166, [(0, (1, 0)), (1, (0, x)), (2, (0, a)), (3, (0, b)), (4, (0, c))], [(1, 0)], w)) 1 rfl ?_
    refine e_Ok.getr (z := 272) rfl (el_o rfl) rfl rfl (e_Has.eq hT (kt_o rfl)) ⟨by decide, by decide⟩ ?_
    refine e_Ok.ps2 (x := (0, b)) (y := (0, a)) (q := 171) 2 rfl ?_
    refine e_Ok.ast rfl (el_o rfl) rfl rfl (by omega) ?_
    generalize hw53 : e_up w 272 a b = w53
    have hT55 : e_Has kTy w53 := e_Has.upr hT hw53 (kt_o rfl) (by omega)
    have QM := kI.hu q hT55 hw53 hm_272
    refine e_Ok.ps1 (x := (0, 0)) (q := 173) 1 rfl ?_
    refine e_Ok.rets rfl rfl ?_
    exact ⟨_, rfl, hT55, ⟨(show e_fr kNw w w53 from e_fr.up (e_fr.refl w) hw53 (by first | exact Or.inr (Or.inr (Or.inr (Or.inr (Or.inr (Or.inr (Or.inr (Or.inr (Or.inr (Or.inr (Or.inr (Or.inr (Or.inl rfl)))))))))))) | (unfold kNw; omega))), (e_uq hw53 (Or.inl (by first | decide | omega)) rfl)⟩, QM, by have g := (show w53 74 1 = w 74 1 from (e_uq hw53 (Or.inl (by first | decide | omega)) rfl)); omega, by have g := (show w53 74 1 = w 74 1 from (e_uq hw53 (Or.inl (by first | decide | omega)) rfl)); omega, aQ.q (e_fr.up (e_fr.refl w) hw53 (by unfold kNq; omega)) hT hT55⟩
  · refine e_Ok.swk (tg := 174) rfl (by rw [h1]; rfl) ?_
    have hr := hR.2.2.2.2.2.2.2.2.1 (by omega)
    refine e_Ok.run (t' := (175, [(0, (1, 0)), (1, (0, x)), (2, (0, a)), (3, (0, b)), (4, (0, c))], [(1, 0)], w)) 1 rfl ?_
    refine e_Ok.getr (z := 262) rfl (el_o rfl) rfl rfl (e_Has.eq hT (kt_o rfl)) ⟨by decide, by decide⟩ ?_
    refine e_Ok.ps1 (x := (1, 0)) (q := 179) 1 rfl ?_
    refine e_Ok.getr (z := 9) rfl (el_o rfl) rfl rfl (e_Has.eq hT (kt_o rfl)) ⟨by decide, by decide⟩ ?_
    refine e_Ok.ps1 (x := (0, a)) (q := 183) 1 rfl ?_
    refine e_Ok.aald (z := 17 * a + 86) rfl (el_o rfl) rfl (by omega) (Eq.trans (e_Has.eq hT (k9 (by omega))) (by omega)) (by omega) ?_
    refine e_Ok.ps1 (x := (0, b)) (q := 185) 1 rfl ?_
    refine e_Ok.callV rfl (e_dq hd rfl) rfl rfl rfl rfl (c_97 (e_dq hd rfl) (a := a) hT hr.1 hr.2.1 q hr.2.2.1 hr.2.2.2.1 hr.2.2.2.2) (fun r56 w57 h58 => ?_)
    obtain ⟨z59, rfl, q60T, q60f, q60x⟩ := h58
    refine e_Ok.nrm (q := 188) (st' := [(0, z59)]) rfl rfl ?_
    refine e_Ok.rets rfl rfl ?_
    exact ⟨_, rfl, q60T, ⟨(q60f.1.mono (fun c k q => nq_nw q)), q60f.2.1⟩, q60x, by have g := q60f.2.2; omega, by have g := q60f.2.2; omega, aQ.q q60f.1 hT q60T⟩
  · refine e_Ok.swk (tg := 189) rfl (by rw [h1]; rfl) ?_
    have hr := hR.2.2.2.2.2.2.2.2.2 (by omega)
    refine e_Ok.run (t' := (190, [(0, (1, 0)), (1, (0, x)), (2, (0, a)), (3, (0, b)), (4, (0, c))], [(1, 0)], w)) 1 rfl ?_
    refine e_Ok.getr (z := 262) rfl (el_o rfl) rfl rfl (e_Has.eq hT (kt_o rfl)) ⟨by decide, by decide⟩ ?_
    refine e_Ok.ps1 (x := (1, 0)) (q := 194) 1 rfl ?_
    refine e_Ok.getr (z := 9) rfl (el_o rfl) rfl rfl (e_Has.eq hT (kt_o rfl)) ⟨by decide, by decide⟩ ?_
    refine e_Ok.ps1 (x := (0, a)) (q := 198) 1 rfl ?_
    refine e_Ok.aald (z := 17 * a + 86) rfl (el_o rfl) rfl (by omega) (Eq.trans (e_Has.eq hT (k9 (by omega))) (by omega)) (by omega) ?_
    refine e_Ok.callV rfl (e_dq hd rfl) rfl rfl rfl rfl (c_107 (e_dq hd rfl) (a := a) hT hr.1 q rfl hr.2.1 hr.2.2.1 hr.2.2.2.1 hr.2.2.2.2) (fun r61 w62 h63 => ?_)
    obtain ⟨z64, rfl, q65T, q65f, q65x⟩ := h63
    refine e_Ok.nrm (q := 202) (st' := [(0, z64)]) rfl rfl ?_
    refine e_Ok.rets rfl rfl ?_
    exact ⟨_, rfl, q65T, ⟨(q65f.1.mono (fun c k q => nq_nw q)), q65f.2.1⟩, q65x, by have g := q65f.2.2; omega, by have g := q65f.2.2; omega, aQ.q q65f.1 hT q65T⟩
end
end
-- part cz
section
noncomputable section
/-! the class: what rewind sets, exactly -/
def kF11 (c k : Int) : Prop := c = 11
def kF13 (c k : Int) : Prop := c = 13
def kF83 (c k : Int) : Prop := c = 83
def kF72 (c k : Int) : Prop := c = 272
def kF93 (a : Int) (c k : Int) : Prop := c = 17 * a + 93
def kCr (c k : Int) : Prop := (c = 74 ∧ (k = 0 ∨ k = 1 ∨ (3 ≤ k ∧ k ≤ 7))) ∨ (78 ≤ c ∧ c ≤ 81)
def kDr (c k : Int) : Prop := (154 ≤ c ∧ c ≤ 249) ∨ c = 83 ∨ (c = 8 ∧ k = 9)
def kPr (c k : Int) : Prop := (11 ≤ c ∧ c ≤ 13) ∨ c = 16
/-- the core as it is at the beginning -/
def cR0 (w : eW) : Prop := (w 74 0 = 0 ∧ w 74 1 = 0 ∧ w 74 3 = 0 ∧ w 74 4 = 0 ∧ w 74 5 = 0 ∧ w 74 6 = 0 ∧ w 74 7 = 0) ∧ ∀ i, 0 ≤ i → i < 8 → w 78 i = 1 ∧ w 79 i = 1 ∧ w 80 i = 0 ∧ w 81 i = 0
/-- a task that there is not -/
def tR0 (w : eW) (t : Int) : Prop := (w (6 * t + 154) 1 = 0 ∧ w (6 * t + 154) 2 = -1 ∧ w (6 * t + 154) 3 = 0 ∧ w (6 * t + 154) 4 = 0 ∧ w (6 * t + 154) 5 = 0 ∧ w (6 * t + 154) 6 = 0) ∧ w (6 * t + 154) 7 = 0 ∧ w (6 * t + 154) 10 = 0 ∧ w (6 * t + 154) 11 = -1 ∧ w (6 * t + 154) 14 = 0 ∧ w (6 * t + 154) 15 = 0
theorem tR0.fr {S : Int → Int → Prop} {w w' : eW} {t : Int} (f : e_fr S w w') (hS : ∀ k, ¬ S (6 * t + 154) k) (h : tR0 w t) : tR0 w' t := by
  have e : ∀ k, w' (6 * t + 154) k = w (6 * t + 154) k := fun k => f _ _ (hS k)
  unfold tR0 at h ⊢
  rw [e 1, e 2, e 3, e 4, e 5, e 6, e 7, e 10, e 11, e 14, e 15]
  exact h
/-- how values follow from the wires alone -/
def rc0 (w : eW) (u : Int → Int) (p : Int) : Int := if w 15 p < 0 then 0 else if w 17 p = 0 then u (w 15 p) else if u (w 15 p) = 0 then 1 else 0
def vFx (w : eW) (V : Int → Int) : Prop := ∀ p, 0 ≤ p → p ≤ 63 → V p = rc0 w V p
theorem vFx.pFx {w v : eW} {V : Int → Int} (h : vFx w V) (h15 : ∀ p, v 15 p = w 15 p) (h17 : ∀ p, v 17 p = w 17 p) (h11 : ∀ p, 0 ≤ p → p < 64 → v 11 p = 0) (h16 : ∀ p, 0 ≤ p → p < 64 → v 16 p = 0) : pFx v V := fun p g1 g2 => by
  have q := h p g1 g2
  unfold rc0 at q
  unfold rcv
  rw [h16 p g1 (by omega), h11 p g1 (by omega), h15, h17, if_neg (by decide)]
  exact q
theorem c_452_11 {d : Nat} {w : eW} (hT : e_Has kTy w) : e_Ok 20 elay kcode eI d 452 (0, [(0, (1, 11)), (1, (0, 0))], [], w) (fun r w' => r = [] ∧ e_fr kF11 w w' ∧ e_Has kTy w' ∧ (∀ k, 0 ≤ k → k < 64 → w' 11 k = 0)) := by
  refine e_Ok.run (t' := (3, [(2, (0, 0)), (0, (1, 11)), (1, (0, 0))], [(1, 11)], w)) 3 rfl ?_
  refine e_Ok.alen rfl rfl rfl ?_
  refine e_Ok.run (t' := (5, [(3, (0, 64)), (2, (0, 0)), (0, (1, 11)), (1, (0, 0))], [], w)) 1 rfl ?_
  have hL1 : ∀ (nn : Nat) (y2 : Int) (v1 : eW), e_fr kF11 w v1 ∧ e_Has kTy v1 ∧ (∀ i, 0 ≤ i → i < y2 → v1 11 i = 0) ∧ (0 ≤ y2 ∧ y2 ≤ 64) → 64 - y2 < nn → e_Ok 20 elay kcode eI d 452 (5, [(0, (1, 11)), (1, (0, 0)), (2, (0, y2)), (3, (0, 64))], [], v1) (fun r w' => r = [] ∧ e_fr kF11 w w' ∧ e_Has kTy w' ∧ (∀ k, 0 ≤ k → k < 64 → w' 11 k = 0)) := by
    intro nn
    induction nn with
    | zero => intro y2 v1 hj hm; obtain ⟨j3, j4, j5, j6⟩ := hj; exfalso; omega
    | succ nn ih2 =>
      intro y2 v1 hj hm
      obtain ⟨j3, j4, j5, j6⟩ := hj
      refine e_Ok.run (t' := (7, [(0, (1, 11)), (1, (0, 0)), (2, (0, y2)), (3, (0, 64))], [(0, 64), (0, y2)], v1)) 2 rfl ?_
      refine e_Ok.if2 rfl (fun h7 => ?_) (fun h7 => ?_)
      · replace h7 : (y2 : Int) ≥ 64 := h7
        refine e_Ok.rets rfl rfl ?_
        exact ⟨rfl, j3, j4, fun k g1 g2 => j5 k g1 (by omega)⟩
      · replace h7 : (y2 : Int) < 64 := Int.not_le.mp (show ¬ ((y2 : Int) ≥ 64) from h7)
        refine e_Ok.ps3 (x := (0, 0)) (y := (0, y2)) (z := (1, 11)) (q := 13) 3 rfl ?_
        refine e_Ok.ast rfl (el_o rfl) rfl rfl (by omega) ?_
        generalize hw8 : e_up v1 11 y2 0 = w8
        have hT10 : e_Has kTy w8 := e_Has.upr j4 hw8 rfl (by omega)
        refine e_Ok.inc (z := y2 + 1) rfl rfl (by first | with_reducible rfl | omega) (by omega) ?_
        show e_Ok 20 elay kcode eI d 452 (17, [(2, (0, y2 + 1)), (0, (1, 11)), (1, (0, 0)), (3, (0, 64))], [], w8) _
        refine e_Ok.ps0 (q := 5) 1 rfl ?_
        refine e_Ok.sub kAlk (e_sub_of rfl ?_) (ih2 (y2 + 1) w8 ⟨(show e_fr kF11 w w8 from e_fr.up j3 hw8 (by first | exact rfl | (unfold kF11; omega))), hT10, (fun i g1 g2 => by rw [← hw8]; by_cases e : i = y2; (rw [e, e_up_eq]); (rw [e_up_ne _ _ (Or.inr e)]; exact j5 i g1 (by omega))), by omega⟩ (by omega))
        exact ⟨rfl, rfl, rfl, rfl, trivial⟩
  refine e_Ok.sub kAlk (e_sub_of rfl ?_) (hL1 (64 + 1 : Int).toNat 0 w ⟨(e_fr.refl w), hT, (fun i g1 g2 => by omega), by omega⟩ (by omega))
  exact ⟨rfl, rfl, rfl, rfl, trivial⟩
theorem c_452_13 {d : Nat} {w : eW} (hT : e_Has kTy w) : e_Ok 20 elay kcode eI d 452 (0, [(0, (1, 13)), (1, (0, 0))], [], w) (fun r w' => r = [] ∧ e_fr kF13 w w' ∧ e_Has kTy w' ∧ (∀ k, 0 ≤ k → k < 64 → w' 13 k = 0)) := by
  refine e_Ok.run (t' := (3, [(2, (0, 0)), (0, (1, 13)), (1, (0, 0))], [(1, 13)], w)) 3 rfl ?_
  refine e_Ok.alen rfl rfl rfl ?_
  refine e_Ok.run (t' := (5, [(3, (0, 64)), (2, (0, 0)), (0, (1, 13)), (1, (0, 0))], [], w)) 1 rfl ?_
  have hL1 : ∀ (nn : Nat) (y2 : Int) (v1 : eW), e_fr kF13 w v1 ∧ e_Has kTy v1 ∧ (∀ i, 0 ≤ i → i < y2 → v1 13 i = 0) ∧ (0 ≤ y2 ∧ y2 ≤ 64) → 64 - y2 < nn → e_Ok 20 elay kcode eI d 452 (5, [(0, (1, 13)), (1, (0, 0)), (2, (0, y2)), (3, (0, 64))], [], v1) (fun r w' => r = [] ∧ e_fr kF13 w w' ∧ e_Has kTy w' ∧ (∀ k, 0 ≤ k → k < 64 → w' 13 k = 0)) := by
    intro nn
    induction nn with
    | zero => intro y2 v1 hj hm; obtain ⟨j3, j4, j5, j6⟩ := hj; exfalso; omega
    | succ nn ih2 =>
      intro y2 v1 hj hm
      obtain ⟨j3, j4, j5, j6⟩ := hj
      refine e_Ok.run (t' := (7, [(0, (1, 13)), (1, (0, 0)), (2, (0, y2)), (3, (0, 64))], [(0, 64), (0, y2)], v1)) 2 rfl ?_
      refine e_Ok.if2 rfl (fun h7 => ?_) (fun h7 => ?_)
      · replace h7 : (y2 : Int) ≥ 64 := h7
        refine e_Ok.rets rfl rfl ?_
        exact ⟨rfl, j3, j4, fun k g1 g2 => j5 k g1 (by omega)⟩
      · replace h7 : (y2 : Int) < 64 := Int.not_le.mp (show ¬ ((y2 : Int) ≥ 64) from h7)
        refine e_Ok.ps3 (x := (0, 0)) (y := (0, y2)) (z := (1, 13)) (q := 13) 3 rfl ?_
        refine e_Ok.ast rfl (el_o rfl) rfl rfl (by omega) ?_
        generalize hw8 : e_up v1 13 y2 0 = w8
        have hT10 : e_Has kTy w8 := e_Has.upr j4 hw8 rfl (by omega)
        refine e_Ok.inc (z := y2 + 1) rfl rfl (by first | with_reducible rfl | omega) (by omega) ?_
        show e_Ok 20 elay kcode eI d 452 (17, [(2, (0, y2 + 1)), (0, (1, 13)), (1, (0, 0)), (3, (0, 64))], [], w8) _
        refine e_Ok.ps0 (q := 5) 1 rfl ?_
        refine e_Ok.sub kAlk (e_sub_of rfl ?_) (ih2 (y2 + 1) w8 ⟨(show e_fr kF13 w w8 from e_fr.up j3 hw8 (by first | exact rfl | (unfold kF13; omega))), hT10, (fun i g1 g2 => by rw [← hw8]; by_cases e : i = y2; (rw [e, e_up_eq]); (rw [e_up_ne _ _ (Or.inr e)]; exact j5 i g1 (by omega))), by omega⟩ (by omega))
        exact ⟨rfl, rfl, rfl, rfl, trivial⟩
  refine e_Ok.sub kAlk (e_sub_of rfl ?_) (hL1 (64 + 1 : Int).toNat 0 w ⟨(e_fr.refl w), hT, (fun i g1 g2 => by omega), by omega⟩ (by omega))
  exact ⟨rfl, rfl, rfl, rfl, trivial⟩
theorem c_452_83 {d : Nat} {w : eW} (hT : e_Has kTy w) : e_Ok 20 elay kcode eI d 452 (0, [(0, (1, 83)), (1, (0, (-1)))], [], w) (fun r w' => r = [] ∧ e_fr kF83 w w' ∧ e_Has kTy w' ∧ (∀ k, 0 ≤ k → k < 8 → w' 83 k = (-1))) := by
  refine e_Ok.run (t' := (3, [(2, (0, 0)), (0, (1, 83)), (1, (0, (-1)))], [(1, 83)], w)) 3 rfl ?_
  refine e_Ok.alen rfl rfl rfl ?_
  refine e_Ok.run (t' := (5, [(3, (0, 8)), (2, (0, 0)), (0, (1, 83)), (1, (0, (-1)))], [], w)) 1 rfl ?_
  have hL1 : ∀ (nn : Nat) (y2 : Int) (v1 : eW), e_fr kF83 w v1 ∧ e_Has kTy v1 ∧ (∀ i, 0 ≤ i → i < y2 → v1 83 i = (-1)) ∧ (0 ≤ y2 ∧ y2 ≤ 8) → 8 - y2 < nn → e_Ok 20 elay kcode eI d 452 (5, [(0, (1, 83)), (1, (0, (-1))), (2, (0, y2)), (3, (0, 8))], [], v1) (fun r w' => r = [] ∧ e_fr kF83 w w' ∧ e_Has kTy w' ∧ (∀ k, 0 ≤ k → k < 8 → w' 83 k = (-1))) := by
    intro nn
    induction nn with
    | zero => intro y2 v1 hj hm; obtain ⟨j3, j4, j5, j6⟩ := hj; exfalso; omega
    | succ nn ih2 =>
      intro y2 v1 hj hm
      obtain ⟨j3, j4, j5, j6⟩ := hj
      refine e_Ok.run (t' := (7, [(0, (1, 83)), (1, (0, (-1))), (2, (0, y2)), (3, (0, 8))], [(0, 8), (0, y2)], v1)) 2 rfl ?_
      refine e_Ok.if2 rfl (fun h7 => ?_) (fun h7 => ?_)
      · replace h7 : (y2 : Int) ≥ 8 := h7
        refine e_Ok.rets rfl rfl ?_
        exact ⟨rfl, j3, j4, fun k g1 g2 => j5 k g1 (by omega)⟩
      · replace h7 : (y2 : Int) < 8 := Int.not_le.mp (show ¬ ((y2 : Int) ≥ 8) from h7)
        refine e_Ok.ps3 (x := (0, (-1))) (y := (0, y2)) (z := (1, 83)) (q := 13) 3 rfl ?_
        refine e_Ok.ast rfl (el_o rfl) rfl rfl (by omega) ?_
        generalize hw8 : e_up v1 83 y2 (-1) = w8
        have hT10 : e_Has kTy w8 := e_Has.upr j4 hw8 rfl (by omega)
        refine e_Ok.inc (z := y2 + 1) rfl rfl (by first | with_reducible rfl | omega) (by omega) ?_
        show e_Ok 20 elay kcode eI d 452 (17, [(2, (0, y2 + 1)), (0, (1, 83)), (1, (0, (-1))), (3, (0, 8))], [], w8) _
        refine e_Ok.ps0 (q := 5) 1 rfl ?_
        refine e_Ok.sub kAlk (e_sub_of rfl ?_) (ih2 (y2 + 1) w8 ⟨(show e_fr kF83 w w8 from e_fr.up j3 hw8 (by first | exact rfl | (unfold kF83; omega))), hT10, (fun i g1 g2 => by rw [← hw8]; by_cases e : i = y2; (rw [e, e_up_eq]); (rw [e_up_ne _ _ (Or.inr e)]; exact j5 i g1 (by omega))), by omega⟩ (by omega))
        exact ⟨rfl, rfl, rfl, rfl, trivial⟩
  refine e_Ok.sub kAlk (e_sub_of rfl ?_) (hL1 (8 + 1 : Int).toNat 0 w ⟨(e_fr.refl w), hT, (fun i g1 g2 => by omega), by omega⟩ (by omega))
  exact ⟨rfl, rfl, rfl, rfl, trivial⟩
theorem c_452_72 {d : Nat} {w : eW} (hT : e_Has kTy w) : e_Ok 20 elay kcode eI d 452 (0, [(0, (1, 272)), (1, (0, 0))], [], w) (fun r w' => r = [] ∧ e_fr kF72 w w' ∧ e_Has kTy w' ∧ (∀ k, 0 ≤ k → k < 6 → w' 272 k = 0)) := by
  refine e_Ok.run (t' := (3, [(2, (0, 0)), (0, (1, 272)), (1, (0, 0))], [(1, 272)], w)) 3 rfl ?_
  refine e_Ok.alen rfl rfl rfl ?_
  refine e_Ok.run (t' := (5, [(3, (0, 6)), (2, (0, 0)), (0, (1, 272)), (1, (0, 0))], [], w)) 1 rfl ?_
  have hL1 : ∀ (nn : Nat) (y2 : Int) (v1 : eW), e_fr kF72 w v1 ∧ e_Has kTy v1 ∧ (∀ i, 0 ≤ i → i < y2 → v1 272 i = 0) ∧ (0 ≤ y2 ∧ y2 ≤ 6) → 6 - y2 < nn → e_Ok 20 elay kcode eI d 452 (5, [(0, (1, 272)), (1, (0, 0)), (2, (0, y2)), (3, (0, 6))], [], v1) (fun r w' => r = [] ∧ e_fr kF72 w w' ∧ e_Has kTy w' ∧ (∀ k, 0 ≤ k → k < 6 → w' 272 k = 0)) := by
    intro nn
    induction nn with
    | zero => intro y2 v1 hj hm; obtain ⟨j3, j4, j5, j6⟩ := hj; exfalso; omega
    | succ nn ih2 =>
      intro y2 v1 hj hm
      obtain ⟨j3, j4, j5, j6⟩ := hj
      refine e_Ok.run (t' := (7, [(0, (1, 272)), (1, (0, 0)), (2, (0, y2)), (3, (0, 6))], [(0, 6), (0, y2)], v1)) 2 rfl ?_
      refine e_Ok.if2 rfl (fun h7 => ?_) (fun h7 => ?_)
      · replace h7 : (y2 : Int) ≥ 6 := h7
        refine e_Ok.rets rfl rfl ?_
        exact ⟨rfl, j3, j4, fun k g1 g2 => j5 k g1 (by omega)⟩
      · replace h7 : (y2 : Int) < 6 := Int.not_le.mp (show ¬ ((y2 : Int) ≥ 6) from h7)
        refine e_Ok.ps3 (x := (0, 0)) (y := (0, y2)) (z := (1, 272)) (q := 13) 3 rfl ?_
        refine e_Ok.ast rfl (el_o rfl) rfl rfl (by omega) ?_
        generalize hw8 : e_up v1 272 y2 0 = w8
        have hT10 : e_Has kTy w8 := e_Has.upr j4 hw8 rfl (by omega)
        refine e_Ok.inc (z := y2 + 1) rfl rfl (by first | with_reducible rfl | omega) (by omega) ?_
        show e_Ok 20 elay kcode eI d 452 (17, [(2, (0, y2 + 1)), (0, (1, 272)), (1, (0, 0)), (3, (0, 6))], [], w8) _
        refine e_Ok.ps0 (q := 5) 1 rfl ?_
        refine e_Ok.sub kAlk (e_sub_of rfl ?_) (ih2 (y2 + 1) w8 ⟨(show e_fr kF72 w w8 from e_fr.up j3 hw8 (by first | exact rfl | (unfold kF72; omega))), hT10, (fun i g1 g2 => by rw [← hw8]; by_cases e : i = y2; (rw [e, e_up_eq]); (rw [e_up_ne _ _ (Or.inr e)]; exact j5 i g1 (by omega))), by omega⟩ (by omega))
        exact ⟨rfl, rfl, rfl, rfl, trivial⟩
  refine e_Ok.sub kAlk (e_sub_of rfl ?_) (hL1 (6 + 1 : Int).toNat 0 w ⟨(e_fr.refl w), hT, (fun i g1 g2 => by omega), by omega⟩ (by omega))
  exact ⟨rfl, rfl, rfl, rfl, trivial⟩
theorem c_452_93 {d : Nat} {w : eW} (hT : e_Has kTy w) {a : Int} (g_a : 0 ≤ a ∧ a ≤ 3) : e_Ok 20 elay kcode eI d 452 (0, [(0, (1, 17 * a + 93)), (1, (0, 0))], [], w) (fun r w' => r = [] ∧ e_fr (kF93 a) w w' ∧ e_Has kTy w' ∧ (∀ k, 0 ≤ k → k < 32 → w' (17 * a + 93) k = 0)) := by
  refine e_Ok.run (t' := (3, [(2, (0, 0)), (0, (1, 17 * a + 93)), (1, (0, 0))], [(1, 17 * a + 93)], w)) 3 rfl ?_
  refine e_Ok.alen rfl (lA7 (a := a) rfl g_a) rfl ?_
  refine e_Ok.run (t' := (5, [(3, (0, 32)), (2, (0, 0)), (0, (1, 17 * a + 93)), (1, (0, 0))], [], w)) 1 rfl ?_
  have hL1 : ∀ (nn : Nat) (y2 : Int) (v1 : eW), e_fr (kF93 a) w v1 ∧ e_Has kTy v1 ∧ (∀ i, 0 ≤ i → i < y2 → v1 (17 * a + 93) i = 0) ∧ (0 ≤ y2 ∧ y2 ≤ 32) → 32 - y2 < nn → e_Ok 20 elay kcode eI d 452 (5, [(0, (1, 17 * a + 93)), (1, (0, 0)), (2, (0, y2)), (3, (0, 32))], [], v1) (fun r w' => r = [] ∧ e_fr (kF93 a) w w' ∧ e_Has kTy w' ∧ (∀ k, 0 ≤ k → k < 32 → w' (17 * a + 93) k = 0)) := by
    intro nn
    induction nn with
    | zero => intro y2 v1 hj hm; obtain ⟨j3, j4, j5, j6⟩ := hj; exfalso; omega
    | succ nn ih2 =>
      intro y2 v1 hj hm
      obtain ⟨j3, j4, j5, j6⟩ := hj
      refine e_Ok.run (t' := (7, [(0, (1, 17 * a + 93)), (1, (0, 0)), (2, (0, y2)), (3, (0, 32))], [(0, 32), (0, y2)], v1)) 2 rfl ?_
      refine e_Ok.if2 rfl (fun h7 => ?_) (fun h7 => ?_)
      · replace h7 : (y2 : Int) ≥ 32 := h7
        refine e_Ok.rets rfl rfl ?_
        exact ⟨rfl, j3, j4, fun k g1 g2 => j5 k g1 (by omega)⟩
      · replace h7 : (y2 : Int) < 32 := Int.not_le.mp (show ¬ ((y2 : Int) ≥ 32) from h7)
        refine e_Ok.ps3 (x := (0, 0)) (y := (0, y2)) (z := (1, 17 * a + 93)) (q := 13) 3 rfl ?_
        refine e_Ok.ast rfl (lA7 (a := a) rfl g_a) rfl rfl (by omega) ?_
        generalize hw8 : e_up v1 (17 * a + 93) y2 0 = w8
        have hT10 : e_Has kTy w8 := e_Has.upr j4 hw8 (kA93 (a := a) _ rfl g_a) (by omega)
        refine e_Ok.inc (z := y2 + 1) rfl rfl (by first | with_reducible rfl | omega) (by omega) ?_
        show e_Ok 20 elay kcode eI d 452 (17, [(2, (0, y2 + 1)), (0, (1, 17 * a + 93)), (1, (0, 0)), (3, (0, 32))], [], w8) _
        refine e_Ok.ps0 (q := 5) 1 rfl ?_
        refine e_Ok.sub kAlk (e_sub_of rfl ?_) (ih2 (y2 + 1) w8 ⟨(show e_fr (kF93 a) w w8 from e_fr.up j3 hw8 (by first | exact (by omega) | (unfold kF93; omega))), hT10, (fun i g1 g2 => by rw [← hw8]; by_cases e : i = y2; (rw [e, e_up_eq]); (rw [e_up_ne _ _ (Or.inr e)]; exact j5 i g1 (by omega))), by omega⟩ (by omega))
        exact ⟨rfl, rfl, rfl, rfl, trivial⟩
  refine e_Ok.sub kAlk (e_sub_of rfl ?_) (hL1 (32 + 1 : Int).toNat 0 w ⟨(e_fr.refl w), hT, (fun i g1 g2 => by omega), by omega⟩ (by omega))
  exact ⟨rfl, rfl, rfl, rfl, trivial⟩
theorem no_cz_0 : ¬ kCr 74 11 := by unfold kCr; omega
theorem no_cz_1 : ¬ kCr 74 12 := by unfold kCr; omega
theorem no_cz_2 : ¬ kCr 74 13 := by unfold kCr; omega
theorem no_cz_3 : ¬ kCr 74 14 := by unfold kCr; omega
theorem c_26 {d : Nat} {w : eW} (hT : e_Has kTy w) : e_Ok 20 elay kcode eI d 26 (0, [(0, (1, 74))], [], w) (fun r w' => r = [] ∧ e_fr kCr w w' ∧ e_Has kTy w' ∧ cR0 w') := by
  refine e_Ok.ps2 (x := (0, 0)) (y := (1, 74)) (q := 2) 2 rfl ?_
  refine e_Ok.putf rfl (el_o rfl) rfl rfl ?_
  generalize hw1 : e_up w 74 0 0 = w1
  have hT3 : e_Has kTy w1 := e_Has.upr hT hw1 (kt_o rfl) (by omega)
  refine e_Ok.ps2 (x := (0, 0)) (y := (1, 74)) (q := 7) 2 rfl ?_
  refine e_Ok.putf rfl (el_o rfl) rfl rfl ?_
  generalize hw4 : e_up w1 74 1 0 = w4
  have hT6 : e_Has kTy w4 := e_Has.upr hT3 hw4 (kt_o rfl) (by omega)
  refine e_Ok.ps2 (x := (0, 0)) (y := (1, 74)) (q := 12) 2 rfl ?_
  refine e_Ok.putb rfl (el_o rfl) rfl rfl (by omega) ?_
  generalize hw7 : e_up w4 74 3 0 = w7
  have hT9 : e_Has kTy w7 := e_Has.upr hT6 hw7 (kt_o rfl) (by omega)
  refine e_Ok.ps2 (x := (0, 0)) (y := (1, 74)) (q := 17) 2 rfl ?_
  refine e_Ok.putf rfl (el_o rfl) rfl rfl ?_
  generalize hw10 : e_up w7 74 4 0 = w10
  have hT12 : e_Has kTy w10 := e_Has.upr hT9 hw10 (kt_o rfl) (by omega)
  refine e_Ok.ps2 (x := (0, 0)) (y := (1, 74)) (q := 22) 2 rfl ?_
  refine e_Ok.putf rfl (el_o rfl) rfl rfl ?_
  generalize hw13 : e_up w10 74 5 0 = w13
  have hT15 : e_Has kTy w13 := e_Has.upr hT12 hw13 (kt_o rfl) (by omega)
  refine e_Ok.ps2 (x := (0, 0)) (y := (1, 74)) (q := 27) 2 rfl ?_
  refine e_Ok.putf rfl (el_o rfl) rfl rfl ?_
  generalize hw16 : e_up w13 74 6 0 = w16
  have hT18 : e_Has kTy w16 := e_Has.upr hT15 hw16 (kt_o rfl) (by omega)
  refine e_Ok.ps2 (x := (0, 0)) (y := (1, 74)) (q := 32) 2 rfl ?_
  refine e_Ok.putb rfl (el_o rfl) rfl rfl (by omega) ?_
  generalize hw19 : e_up w16 74 7 0 = w19
  have hT21 : e_Has kTy w19 := e_Has.upr hT18 hw19 (kt_o rfl) (by omega)
  refine e_Ok.run (t' := (37, [(1, (0, 0)), (0, (1, 74))], [], w19)) 2 rfl ?_
  have hL22 : ∀ (nn : Nat) (y1 : Int) (v1 : eW), e_fr kCr w v1 ∧ e_Has kTy v1 ∧ v1 74 0 = 0 ∧ v1 74 1 = 0 ∧ v1 74 3 = 0 ∧ v1 74 4 = 0 ∧ v1 74 5 = 0 ∧ v1 74 6 = 0 ∧ v1 74 7 = 0 ∧ (∀ i, 0 ≤ i → i < y1 → v1 78 i = 1 ∧ v1 79 i = 1 ∧ v1 80 i = 0 ∧ v1 81 i = 0) ∧ (0 ≤ y1 ∧ y1 ≤ 8) → 8 - y1 < nn → e_Ok 20 elay kcode eI d 26 (37, [(0, (1, 74)), (1, (0, y1))], [], v1) (fun r w' => r = [] ∧ e_fr kCr w w' ∧ e_Has kTy w' ∧ cR0 w') := by
    intro nn
    induction nn with
    | zero => intro y1 v1 hj hm; obtain ⟨j24, j25, j26, j27, j28, j29, j30, j31, j32, j33, j34⟩ := hj; exfalso; omega
    | succ nn ih23 =>
      intro y1 v1 hj hm
      obtain ⟨j24, j25, j26, j27, j28, j29, j30, j31, j32, j33, j34⟩ := hj
      refine e_Ok.run (t' := (40, [(0, (1, 74)), (1, (0, y1))], [(0, 8), (0, y1)], v1)) 2 rfl ?_
      refine e_Ok.if2 rfl (fun h35 => ?_) (fun h35 => ?_)
      · replace h35 : (y1 : Int) ≥ 8 := h35
        refine e_Ok.rets rfl rfl ?_
        exact ⟨rfl, j24, j25, ⟨⟨j26, j27, j28, j29, j30, j31, j32⟩, fun i g1 g2 => j33 i g1 (by omega)⟩⟩
      · replace h35 : (y1 : Int) < 8 := Int.not_le.mp (show ¬ ((y1 : Int) ≥ 8) from h35)
        refine e_Ok.ps1 (x := (1, 74)) (q := 44) 1 rfl ?_
        refine e_Ok.getr (z := 78) rfl (el_o rfl) rfl rfl ((j24 74 11 no_cz_0).trans (e_Has.eq hT (kt_o rfl))) ⟨by decide, by decide⟩ ?_
        refine e_Ok.ps2 (x := (0, 1)) (y := (0, y1)) (q := 49) 2 rfl ?_
        refine e_Ok.ast rfl (el_o rfl) rfl (e_nar_b (by omega)) (by omega) ?_
        generalize hw36 : e_up v1 78 y1 1 = w36
        have hT38 : e_Has kTy w36 := e_Has.upr j25 hw36 rfl (by omega)
        refine e_Ok.ps1 (x := (1, 74)) (q := 51) 1 rfl ?_
        refine e_Ok.getr (z := 79) rfl (el_o rfl) rfl rfl (e_uq hw36 (Or.inl (by decide)) ((j24 74 12 no_cz_1).trans (e_Has.eq hT (kt_o rfl)))) ⟨by decide, by decide⟩ ?_
        refine e_Ok.ps2 (x := (0, 1)) (y := (0, y1)) (q := 56) 2 rfl ?_
        refine e_Ok.ast rfl (el_o rfl) rfl (e_nar_b (by omega)) (by omega) ?_
        generalize hw40 : e_up w36 79 y1 1 = w40
        have hT42 : e_Has kTy w40 := e_Has.upr hT38 hw40 (kt_o rfl) (by omega)
        refine e_Ok.ps1 (x := (1, 74)) (q := 58) 1 rfl ?_
        refine e_Ok.getr (z := 80) rfl (el_o rfl) rfl rfl (e_uq hw40 (Or.inl (by decide)) (e_uq hw36 (Or.inl (by decide)) ((j24 74 13 no_cz_2).trans (e_Has.eq hT (kt_o rfl))))) ⟨by decide, by decide⟩ ?_
        refine e_Ok.ps2 (x := (0, 0)) (y := (0, y1)) (q := 63) 2 rfl ?_
        refine e_Ok.ast rfl (el_o rfl) rfl (e_nar_b (by omega)) (by omega) ?_
        generalize hw43 : e_up w40 80 y1 0 = w43
        have hT45 : e_Has kTy w43 := e_Has.upr hT42 hw43 (kt_o rfl) (by omega)
        refine e_Ok.ps1 (x := (1, 74)) (q := 65) 1 rfl ?_
        refine e_Ok.getr (z := 81) rfl (el_o rfl) rfl rfl (e_uq hw43 (Or.inl (by decide)) (e_uq hw40 (Or.inl (by decide)) (e_uq hw36 (Or.inl (by decide)) ((j24 74 14 no_cz_3).trans (e_Has.eq hT (kt_o rfl)))))) ⟨by decide, by decide⟩ ?_
        refine e_Ok.ps2 (x := (0, 0)) (y := (0, y1)) (q := 70) 2 rfl ?_
        refine e_Ok.ast rfl (el_o rfl) rfl rfl (by omega) ?_
        generalize hw46 : e_up w43 81 y1 0 = w46
        have hT48 : e_Has kTy w46 := e_Has.upr hT45 hw46 (kt_o rfl) (by omega)
        refine e_Ok.inc (z := y1 + 1) rfl rfl (by first | with_reducible rfl | omega) (by omega) ?_
        show e_Ok 20 elay kcode eI d 26 (74, [(1, (0, y1 + 1)), (0, (1, 74))], [], w46) _
        refine e_Ok.ps0 (q := 37) 1 rfl ?_
        refine e_Ok.sub kAlk (e_sub_of rfl ?_) (ih23 (y1 + 1) w46 ⟨(show e_fr kCr w w46 from e_fr.up (show e_fr kCr w w43 from e_fr.up (show e_fr kCr w w40 from e_fr.up (show e_fr kCr w w36 from e_fr.up j24 hw36 (by first | exact Or.inr ⟨(by decide), (by decide)⟩ | (unfold kCr; omega))) hw40 (by first | exact Or.inr ⟨(by decide), (by decide)⟩ | (unfold kCr; omega))) hw43 (by first | exact Or.inr ⟨(by decide), (by decide)⟩ | (unfold kCr; omega))) hw46 (by first | exact Or.inr ⟨(by decide), (by decide)⟩ | (unfold kCr; omega))), hT48, (e_uq hw46 (Or.inl (by omega)) (e_uq hw43 (Or.inl (by omega)) (e_uq hw40 (Or.inl (by omega)) (e_uq hw36 (Or.inl (by omega)) j26)))), (e_uq hw46 (Or.inl (by omega)) (e_uq hw43 (Or.inl (by omega)) (e_uq hw40 (Or.inl (by omega)) (e_uq hw36 (Or.inl (by omega)) j27)))), (e_uq hw46 (Or.inl (by omega)) (e_uq hw43 (Or.inl (by omega)) (e_uq hw40 (Or.inl (by omega)) (e_uq hw36 (Or.inl (by omega)) j28)))), (e_uq hw46 (Or.inl (by omega)) (e_uq hw43 (Or.inl (by omega)) (e_uq hw40 (Or.inl (by omega)) (e_uq hw36 (Or.inl (by omega)) j29)))), (e_uq hw46 (Or.inl (by omega)) (e_uq hw43 (Or.inl (by omega)) (e_uq hw40 (Or.inl (by omega)) (e_uq hw36 (Or.inl (by omega)) j30)))), (e_uq hw46 (Or.inl (by omega)) (e_uq hw43 (Or.inl (by omega)) (e_uq hw40 (Or.inl (by omega)) (e_uq hw36 (Or.inl (by omega)) j31)))), (e_uq hw46 (Or.inl (by omega)) (e_uq hw43 (Or.inl (by omega)) (e_uq hw40 (Or.inl (by omega)) (e_uq hw36 (Or.inl (by omega)) j32)))), (fun i g1 g2 => by by_cases e : i = y1; (rw [e]; exact ⟨(e_uq hw46 (Or.inl (by omega)) (e_uq hw43 (Or.inl (by omega)) (e_uq hw40 (Or.inl (by omega)) (e_ue hw36)))), (e_uq hw46 (Or.inl (by omega)) (e_uq hw43 (Or.inl (by omega)) (e_ue hw40))), (e_uq hw46 (Or.inl (by omega)) (e_ue hw43)), (e_ue hw46)⟩); (have z := j33 i g1 (by omega); exact ⟨by rw [← hw46, e_up_ne _ _ (by omega), ← hw43, e_up_ne _ _ (by omega), ← hw40, e_up_ne _ _ (by omega), ← hw36, e_up_ne _ _ (by omega)]; exact z.1, by rw [← hw46, e_up_ne _ _ (by omega), ← hw43, e_up_ne _ _ (by omega), ← hw40, e_up_ne _ _ (by omega), ← hw36, e_up_ne _ _ (by omega)]; exact z.2.1, by rw [← hw46, e_up_ne _ _ (by omega), ← hw43, e_up_ne _ _ (by omega), ← hw40, e_up_ne _ _ (by omega), ← hw36, e_up_ne _ _ (by omega)]; exact z.2.2.1, by rw [← hw46, e_up_ne _ _ (by omega), ← hw43, e_up_ne _ _ (by omega), ← hw40, e_up_ne _ _ (by omega), ← hw36, e_up_ne _ _ (by omega)]; exact z.2.2.2⟩)), by omega⟩ (by omega))
        exact ⟨rfl, rfl, trivial⟩
  refine e_Ok.sub kAlk (e_sub_of rfl ?_) (hL22 (8 + 1 : Int).toNat 0 w19 ⟨(show e_fr kCr w w19 from e_fr.up (show e_fr kCr w w16 from e_fr.up (show e_fr kCr w w13 from e_fr.up (show e_fr kCr w w10 from e_fr.up (show e_fr kCr w w7 from e_fr.up (show e_fr kCr w w4 from e_fr.up (show e_fr kCr w w1 from e_fr.up (e_fr.refl w) hw1 (by first | exact Or.inl ⟨rfl, Or.inl rfl⟩ | (unfold kCr; omega))) hw4 (by first | exact Or.inl ⟨rfl, Or.inr (Or.inl rfl)⟩ | (unfold kCr; omega))) hw7 (by first | exact Or.inl ⟨rfl, Or.inr (Or.inr ⟨(by decide), (by decide)⟩)⟩ | (unfold kCr; omega))) hw10 (by first | exact Or.inl ⟨rfl, Or.inr (Or.inr ⟨(by decide), (by decide)⟩)⟩ | (unfold kCr; omega))) hw13 (by first | exact Or.inl ⟨rfl, Or.inr (Or.inr ⟨(by decide), (by decide)⟩)⟩ | (unfold kCr; omega))) hw16 (by first | exact Or.inl ⟨rfl, Or.inr (Or.inr ⟨(by decide), (by decide)⟩)⟩ | (unfold kCr; omega))) hw19 (by first | exact Or.inl ⟨rfl, Or.inr (Or.inr ⟨(by decide), (by decide)⟩)⟩ | (unfold kCr; omega))), hT21, (e_uq hw19 (Or.inr (by omega)) (e_uq hw16 (Or.inr (by omega)) (e_uq hw13 (Or.inr (by omega)) (e_uq hw10 (Or.inr (by omega)) (e_uq hw7 (Or.inr (by omega)) (e_uq hw4 (Or.inr (by omega)) (e_ue hw1))))))), (e_uq hw19 (Or.inr (by omega)) (e_uq hw16 (Or.inr (by omega)) (e_uq hw13 (Or.inr (by omega)) (e_uq hw10 (Or.inr (by omega)) (e_uq hw7 (Or.inr (by omega)) (e_ue hw4)))))), (e_uq hw19 (Or.inr (by omega)) (e_uq hw16 (Or.inr (by omega)) (e_uq hw13 (Or.inr (by omega)) (e_uq hw10 (Or.inr (by omega)) (e_ue hw7))))), (e_uq hw19 (Or.inr (by omega)) (e_uq hw16 (Or.inr (by omega)) (e_uq hw13 (Or.inr (by omega)) (e_ue hw10)))), (e_uq hw19 (Or.inr (by omega)) (e_uq hw16 (Or.inr (by omega)) (e_ue hw13))), (e_uq hw19 (Or.inr (by omega)) (e_ue hw16)), (e_ue hw19), (fun i g1 g2 => by omega), by omega⟩ (by omega))
  exact ⟨rfl, rfl, trivial⟩
theorem no_cz_4 {t : Int} (ht : 0 ≤ t ∧ t ≤ 15) : ¬ kEn t (6 * t + 154) 1 := by unfold kEn; omega
theorem no_cz_5 {t : Int} (ht : 0 ≤ t ∧ t ≤ 15) : ¬ kEn t (6 * t + 154) 2 := by unfold kEn; omega
theorem no_cz_6 {t : Int} (ht : 0 ≤ t ∧ t ≤ 15) : ¬ kEn t (6 * t + 154) 7 := by unfold kEn; omega
theorem no_cz_7 {t : Int} (ht : 0 ≤ t ∧ t ≤ 15) : ¬ kEn t (6 * t + 154) 10 := by unfold kEn; omega
theorem no_cz_8 {t : Int} (ht : 0 ≤ t ∧ t ≤ 15) : ¬ kEn t (6 * t + 154) 11 := by unfold kEn; omega
theorem no_cz_9 {t : Int} (ht : 0 ≤ t ∧ t ≤ 15) : ¬ kEn t (6 * t + 154) 5 := by unfold kEn; omega
theorem no_cz_10 {t : Int} (ht : 0 ≤ t ∧ t ≤ 15) : ¬ kEn t (6 * t + 154) 6 := by unfold kEn; omega
theorem no_cz_11 {t : Int} (ht : 0 ≤ t ∧ t ≤ 15) : ¬ kEn t (6 * t + 154) 14 := by unfold kEn; omega
theorem no_cz_12 {t : Int} (ht : 0 ≤ t ∧ t ≤ 15) : ¬ kEn t (6 * t + 154) 15 := by unfold kEn; omega
theorem su_cz_18 {t : Int} {c k : Int} (q : kEn t c k) : kBg t c k := by
  unfold kEn at q
  rcases q with ⟨q, (q | q)⟩ | q | q
  · exact Or.inl ⟨(by omega), Or.inl ⟨(by omega), (by omega)⟩⟩
  · exact Or.inl ⟨(by omega), Or.inl ⟨(by omega), (by omega)⟩⟩
  · exact Or.inr (Or.inl (by omega))
  · exact Or.inr (Or.inr (by omega))
theorem c_180_b {d : Nat} (hd : 21 ≤ d) {w : eW} (hT : e_Has kTy w) {t : Int} (gt : 0 ≤ t ∧ t ≤ 15) {op : Int → Int} {a p tk : Int} (ga : -1 ≤ a ∧ a ≤ 3) (gp : -2147483648 ≤ p ∧ p ≤ 2147483647) (gk : -2147483648 ≤ tk ∧ tk ≤ 2147483647) : e_Ok 20 elay kcode eI d 180 (0, [(0, (1, 6 * t + 154)), (1, (0, a)), (2, (0, p)), (3, (0, tk))], [], w) (fun r w' => r = [] ∧ e_fr (kBg t) w w' ∧ e_Has kTy w' ∧ (w' (6 * t + 154) 1 = 1 ∧ w' (6 * t + 154) 2 = a ∧ w' (6 * t + 154) 7 = tk ∧ w' (6 * t + 154) 10 = 0 ∧ w' (6 * t + 154) 11 = -1 ∧ w' (6 * t + 154) 5 = 0 ∧ w' (6 * t + 154) 6 = 0 ∧ w' (6 * t + 154) 14 = 0 ∧ w' (6 * t + 154) 15 = 0) ∧ w' (6 * t + 154) 4 = 1 ∧ w' (6 * t + 154) 3 = p) := by
  obtain ⟨d, rfl⟩ : ∃ e, d = e + 1 := ⟨d - 1, by omega⟩
  refine e_Ok.ps2 (x := (0, 1)) (y := (1, 6 * t + 154)) (q := 2) 2 rfl ?_
  refine e_Ok.putf rfl (lT0 (t := t) rfl gt) rfl rfl ?_
  generalize hw1 : e_up w (6 * t + 154) 1 1 = w1
  have hT3 : e_Has kTy w1 := e_Has.upr hT hw1 (kT_1 (t := t) rfl gt) (by omega)
  refine e_Ok.ps2 (x := (0, a)) (y := (1, 6 * t + 154)) (q := 7) 2 rfl ?_
  refine e_Ok.putf rfl (lT0 (t := t) rfl gt) rfl rfl ?_
  generalize hw4 : e_up w1 (6 * t + 154) 2 a = w4
  have hT6 : e_Has kTy w4 := e_Has.upr hT3 hw4 (kT_2 (t := t) rfl gt) (by omega)
  refine e_Ok.ps2 (x := (0, tk)) (y := (1, 6 * t + 154)) (q := 12) 2 rfl ?_
  refine e_Ok.putf rfl (lT0 (t := t) rfl gt) rfl rfl ?_
  generalize hw7 : e_up w4 (6 * t + 154) 7 tk = w7
  have hT9 : e_Has kTy w7 := e_Has.upr hT6 hw7 (kT_7 (t := t) rfl gt) (by omega)
  refine e_Ok.ps2 (x := (0, 0)) (y := (1, 6 * t + 154)) (q := 17) 2 rfl ?_
  refine e_Ok.putf rfl (lT0 (t := t) rfl gt) rfl rfl ?_
  generalize hw10 : e_up w7 (6 * t + 154) 5 0 = w10
  have hT12 : e_Has kTy w10 := e_Has.upr hT9 hw10 (kT_5 (t := t) rfl gt) (by omega)
  refine e_Ok.ps2 (x := (0, 0)) (y := (1, 6 * t + 154)) (q := 22) 2 rfl ?_
  refine e_Ok.putf rfl (lT0 (t := t) rfl gt) rfl rfl ?_
  generalize hw13 : e_up w10 (6 * t + 154) 6 0 = w13
  have hT15 : e_Has kTy w13 := e_Has.upr hT12 hw13 (kT_6 (t := t) rfl gt) (by omega)
  refine e_Ok.ps2 (x := (0, 0)) (y := (1, 6 * t + 154)) (q := 27) 2 rfl ?_
  refine e_Ok.putb rfl (lT0 (t := t) rfl gt) rfl rfl (by omega) ?_
  generalize hw16 : e_up w13 (6 * t + 154) 10 0 = w16
  have hT18 : e_Has kTy w16 := e_Has.upr hT15 hw16 (kT_10 (t := t) rfl gt) (by omega)
  refine e_Ok.ps2 (x := (0, (-1))) (y := (1, 6 * t + 154)) (q := 32) 2 rfl ?_
  refine e_Ok.putf rfl (lT0 (t := t) rfl gt) rfl rfl ?_
  generalize hw19 : e_up w16 (6 * t + 154) 11 (-1) = w19
  have hT21 : e_Has kTy w19 := e_Has.upr hT18 hw19 (kT_11 (t := t) rfl gt) (by omega)
  refine e_Ok.ps2 (x := (0, 0)) (y := (1, 6 * t + 154)) (q := 37) 2 rfl ?_
  refine e_Ok.putf rfl (lT0 (t := t) rfl gt) rfl rfl ?_
  generalize hw22 : e_up w19 (6 * t + 154) 14 0 = w22
  have hT24 : e_Has kTy w22 := e_Has.upr hT21 hw22 (kT_14 (t := t) rfl gt) (by omega)
  refine e_Ok.ps2 (x := (0, 0)) (y := (1, 6 * t + 154)) (q := 42) 2 rfl ?_
  refine e_Ok.putf rfl (lT0 (t := t) rfl gt) rfl rfl ?_
  generalize hw25 : e_up w22 (6 * t + 154) 4 0 = w25
  have hT27 : e_Has kTy w25 := e_Has.upr hT24 hw25 (kT_4 (t := t) rfl gt) (by omega)
  refine e_Ok.ps2 (x := (0, 0)) (y := (1, 6 * t + 154)) (q := 47) 2 rfl ?_
  refine e_Ok.putf rfl (lT0 (t := t) rfl gt) rfl rfl ?_
  generalize hw28 : e_up w25 (6 * t + 154) 15 0 = w28
  have hT30 : e_Has kTy w28 := e_Has.upr hT27 hw28 (kT_15 (t := t) rfl gt) (by omega)
  refine e_Ok.ps2 (x := (0, p)) (y := (1, 6 * t + 154)) (q := 52) 2 rfl ?_
  refine e_Ok.callV rfl (e_dq hd rfl) rfl (lT0 (t := t) rfl gt) rfl rfl (c_182 (t := t) (op := op) hT30 (by omega) (by omega) ⟨0, ⟨by have e : w28 (6 * t + 154) 15 = 0 := (e_ue hw28); omega, fun i g1 g2 => by have e : w28 (6 * t + 154) 4 = 0 := (e_uq hw28 (Or.inr (by omega)) (e_ue hw25)); omega, fun i g1 g2 => by omega⟩⟩ (fun g => by have e : w28 (6 * t + 154) 4 = 0 := (e_uq hw28 (Or.inr (by omega)) (e_ue hw25)); omega)) (fun r31 w32 h33 => ?_)
  obtain ⟨z35, rfl, q34f, q34T, q34s, q34x⟩ := h33
  have f36 : e_fr (kBg t) w w32 := e_fr.trans (show e_fr (kBg t) w w28 from e_fr.up (show e_fr (kBg t) w w25 from e_fr.up (show e_fr (kBg t) w w22 from e_fr.up (show e_fr (kBg t) w w19 from e_fr.up (show e_fr (kBg t) w w16 from e_fr.up (show e_fr (kBg t) w w13 from e_fr.up (show e_fr (kBg t) w w10 from e_fr.up (show e_fr (kBg t) w w7 from e_fr.up (show e_fr (kBg t) w w4 from e_fr.up (show e_fr (kBg t) w w1 from e_fr.up (e_fr.refl w) hw1 (by first | exact Or.inl ⟨(by omega), Or.inl ⟨(by decide), (by decide)⟩⟩ | (unfold kBg; omega))) hw4 (by first | exact Or.inl ⟨(by omega), Or.inl ⟨(by decide), (by decide)⟩⟩ | (unfold kBg; omega))) hw7 (by first | exact Or.inl ⟨(by omega), Or.inl ⟨(by decide), (by decide)⟩⟩ | (unfold kBg; omega))) hw10 (by first | exact Or.inl ⟨(by omega), Or.inl ⟨(by decide), (by decide)⟩⟩ | (unfold kBg; omega))) hw13 (by first | exact Or.inl ⟨(by omega), Or.inl ⟨(by decide), (by decide)⟩⟩ | (unfold kBg; omega))) hw16 (by first | exact Or.inl ⟨(by omega), Or.inr (Or.inl rfl)⟩ | (unfold kBg; omega))) hw19 (by first | exact Or.inl ⟨(by omega), Or.inr (Or.inr (Or.inl rfl))⟩ | (unfold kBg; omega))) hw22 (by first | exact Or.inl ⟨(by omega), Or.inr (Or.inr (Or.inr (Or.inl rfl)))⟩ | (unfold kBg; omega))) hw25 (by first | exact Or.inl ⟨(by omega), Or.inl ⟨(by decide), (by decide)⟩⟩ | (unfold kBg; omega))) hw28 (by first | exact Or.inl ⟨(by omega), Or.inr (Or.inr (Or.inr (Or.inr rfl)))⟩ | (unfold kBg; omega))) (e_fr.mono q34f (fun c k q => by first | exact su_cz_18 q | (unfold kEn at q; unfold kBg; omega)))
  refine e_Ok.nrm (q := 55) (st' := [(0, z35)]) rfl rfl ?_
  refine e_Ok.run (t' := (56, [(0, (1, 6 * t + 154)), (1, (0, a)), (2, (0, p)), (3, (0, tk))], [], w32)) 1 rfl ?_
  refine e_Ok.rets rfl rfl ?_
  exact ⟨rfl, f36, q34T, ⟨((q34f (6 * t + 154) 1 (by first | exact no_cz_4 (by omega) | (unfold kEn; omega))).trans (e_uq hw28 (Or.inr (by first | decide | omega)) (e_uq hw25 (Or.inr (by first | decide | omega)) (e_uq hw22 (Or.inr (by first | decide | omega)) (e_uq hw19 (Or.inr (by first | decide | omega)) (e_uq hw16 (Or.inr (by first | decide | omega)) (e_uq hw13 (Or.inr (by first | decide | omega)) (e_uq hw10 (Or.inr (by first | decide | omega)) (e_uq hw7 (Or.inr (by first | decide | omega)) (e_uq hw4 (Or.inr (by first | decide | omega)) (e_ue hw1))))))))))), ((q34f (6 * t + 154) 2 (by first | exact no_cz_5 (by omega) | (unfold kEn; omega))).trans (e_uq hw28 (Or.inr (by first | decide | omega)) (e_uq hw25 (Or.inr (by first | decide | omega)) (e_uq hw22 (Or.inr (by first | decide | omega)) (e_uq hw19 (Or.inr (by first | decide | omega)) (e_uq hw16 (Or.inr (by first | decide | omega)) (e_uq hw13 (Or.inr (by first | decide | omega)) (e_uq hw10 (Or.inr (by first | decide | omega)) (e_uq hw7 (Or.inr (by first | decide | omega)) (e_ue hw4)))))))))), ((q34f (6 * t + 154) 7 (by first | exact no_cz_6 (by omega) | (unfold kEn; omega))).trans (e_uq hw28 (Or.inr (by first | decide | omega)) (e_uq hw25 (Or.inr (by first | decide | omega)) (e_uq hw22 (Or.inr (by first | decide | omega)) (e_uq hw19 (Or.inr (by first | decide | omega)) (e_uq hw16 (Or.inr (by first | decide | omega)) (e_uq hw13 (Or.inr (by first | decide | omega)) (e_uq hw10 (Or.inr (by first | decide | omega)) (e_ue hw7))))))))), ((q34f (6 * t + 154) 10 (by first | exact no_cz_7 (by omega) | (unfold kEn; omega))).trans (e_uq hw28 (Or.inr (by first | decide | omega)) (e_uq hw25 (Or.inr (by first | decide | omega)) (e_uq hw22 (Or.inr (by first | decide | omega)) (e_uq hw19 (Or.inr (by first | decide | omega)) (e_ue hw16)))))), ((q34f (6 * t + 154) 11 (by first | exact no_cz_8 (by omega) | (unfold kEn; omega))).trans (e_uq hw28 (Or.inr (by first | decide | omega)) (e_uq hw25 (Or.inr (by first | decide | omega)) (e_uq hw22 (Or.inr (by first | decide | omega)) (e_ue hw19))))), ((q34f (6 * t + 154) 5 (by first | exact no_cz_9 (by omega) | (unfold kEn; omega))).trans (e_uq hw28 (Or.inr (by first | decide | omega)) (e_uq hw25 (Or.inr (by first | decide | omega)) (e_uq hw22 (Or.inr (by first | decide | omega)) (e_uq hw19 (Or.inr (by first | decide | omega)) (e_uq hw16 (Or.inr (by first | decide | omega)) (e_uq hw13 (Or.inr (by first | decide | omega)) (e_ue hw10)))))))), ((q34f (6 * t + 154) 6 (by first | exact no_cz_10 (by omega) | (unfold kEn; omega))).trans (e_uq hw28 (Or.inr (by first | decide | omega)) (e_uq hw25 (Or.inr (by first | decide | omega)) (e_uq hw22 (Or.inr (by first | decide | omega)) (e_uq hw19 (Or.inr (by first | decide | omega)) (e_uq hw16 (Or.inr (by first | decide | omega)) (e_ue hw13))))))), ((q34f (6 * t + 154) 14 (by first | exact no_cz_11 (by omega) | (unfold kEn; omega))).trans (e_uq hw28 (Or.inr (by first | decide | omega)) (e_uq hw25 (Or.inr (by first | decide | omega)) (e_ue hw22)))), ((q34f (6 * t + 154) 15 (by first | exact no_cz_12 (by omega) | (unfold kEn; omega))).trans (e_ue hw28))⟩, (by rcases q34x with ⟨g1, g2, g3⟩ | ⟨g1, g2, g4⟩; (exact ⟨by rw [g2, show w28 (6 * t + 154) 4 = 0 from (e_uq hw28 (Or.inr (by first | decide | omega)) (e_ue hw25))]; rfl, g3⟩); (exfalso; rw [show w28 (6 * t + 154) 4 = 0 from (e_uq hw28 (Or.inr (by first | decide | omega)) (e_ue hw25))] at g4; omega))⟩
theorem su_cz_19 {t : Int} {c k : Int} (q : kBg t c k) : kTk t c k := by
  unfold kBg at q
  rcases q with ⟨q, (⟨q, q⟩ | q | q | q | q)⟩ | q | q
  · exact ⟨(by omega), (by omega)⟩
  · exact ⟨(by omega), (by omega)⟩
  · exact ⟨(by omega), (by omega)⟩
  · exact ⟨(by omega), (by omega)⟩
  · exact ⟨(by omega), (by omega)⟩
  · exact ⟨(by omega), (by omega)⟩
  · exact ⟨(by omega), (by omega)⟩
theorem c_179 {d : Nat} (hd : 22 ≤ d) {w : eW} (hT : e_Has kTy w) {t : Int} (gt : 0 ≤ t ∧ t ≤ 15) : e_Ok 20 elay kcode eI d 179 (0, [(0, (1, 6 * t + 154))], [], w) (fun r w' => r = [] ∧ e_fr (kTk t) w w' ∧ e_Has kTy w' ∧ tR0 w' t) := by
  obtain ⟨d, rfl⟩ : ∃ e, d = e + 1 := ⟨d - 1, by omega⟩
  refine e_Ok.ps4 (x := (0, 0)) (y := (0, 0)) (z := (0, (-1))) (u := (1, 6 * t + 154)) (q := 4) 4 rfl ?_
  refine e_Ok.callV rfl (e_dq hd rfl) rfl (lT0 (t := t) rfl gt) rfl rfl (c_180_b (op := fun _ => 0) (by omega) (t := t) hT (by omega) (by omega) (by omega) (by omega)) (fun r1 w2 h3 => ?_)
  obtain ⟨rfl, q4f, q4T, ⟨q41, q42, q47, q410, q411, q45, q46, q414, q415⟩, q44, q43⟩ := h3
  refine e_Ok.nrm (q := 7) (st' := []) rfl rfl ?_
  refine e_Ok.ps2 (x := (0, 0)) (y := (1, 6 * t + 154)) (q := 9) 2 rfl ?_
  refine e_Ok.putf rfl (lT0 (t := t) rfl gt) rfl rfl ?_
  generalize hw6 : e_up w2 (6 * t + 154) 1 0 = w6
  have hT8 : e_Has kTy w6 := e_Has.upr q4T hw6 (kT_1 (t := t) rfl gt) (by omega)
  refine e_Ok.ps2 (x := (0, 0)) (y := (1, 6 * t + 154)) (q := 14) 2 rfl ?_
  refine e_Ok.putf rfl (lT0 (t := t) rfl gt) rfl rfl ?_
  generalize hw9 : e_up w6 (6 * t + 154) 4 0 = w9
  have hT11 : e_Has kTy w9 := e_Has.upr hT8 hw9 (kT_4 (t := t) rfl gt) (by omega)
  refine e_Ok.rets rfl rfl ?_
  exact ⟨rfl, (show e_fr (kTk t) w w9 from e_fr.up (show e_fr (kTk t) w w6 from e_fr.up (show e_fr (kTk t) w w2 from e_fr.trans (e_fr.refl w) (e_fr.mono q4f (fun c k q => by first | exact su_cz_19 q | (unfold kBg at q; unfold kTk; omega)))) hw6 (by first | exact ⟨(by omega), (by omega)⟩ | (unfold kTk; omega))) hw9 (by first | exact ⟨(by omega), (by omega)⟩ | (unfold kTk; omega))), hT11, ⟨⟨(e_uq hw9 (Or.inr (by first | decide | omega)) (e_ue hw6)), (e_uq hw9 (Or.inr (by first | decide | omega)) (e_uq hw6 (Or.inr (by first | decide | omega)) q42)), (e_uq hw9 (Or.inr (by first | decide | omega)) (e_uq hw6 (Or.inr (by first | decide | omega)) q43)), (e_ue hw9), (e_uq hw9 (Or.inr (by first | decide | omega)) (e_uq hw6 (Or.inr (by first | decide | omega)) q45)), (e_uq hw9 (Or.inr (by first | decide | omega)) (e_uq hw6 (Or.inr (by first | decide | omega)) q46))⟩, (e_uq hw9 (Or.inr (by first | decide | omega)) (e_uq hw6 (Or.inr (by first | decide | omega)) q47)), (e_uq hw9 (Or.inr (by first | decide | omega)) (e_uq hw6 (Or.inr (by first | decide | omega)) q410)), (e_uq hw9 (Or.inr (by first | decide | omega)) (e_uq hw6 (Or.inr (by first | decide | omega)) q411)), (e_uq hw9 (Or.inr (by first | decide | omega)) (e_uq hw6 (Or.inr (by first | decide | omega)) q414)), (e_uq hw9 (Or.inr (by first | decide | omega)) (e_uq hw6 (Or.inr (by first | decide | omega)) q415))⟩⟩
theorem no_cz_13 : ¬ kDr 8 5 := by unfold kDr; omega
theorem no_cz_14 : ¬ kDr 8 4 := by unfold kDr; omega
theorem no_cz_15 {k : Int} : ¬ kDr 82 k := by unfold kDr; omega
theorem su_cz_20 {c k : Int} (q : kF83 c k) : kDr c k := by
  unfold kF83 at q
  rcases q with q
  · exact Or.inr (Or.inl (by omega))
theorem c_35 {d : Nat} (hd : 23 ≤ d) {w : eW} (hT : e_Has kTy w) : e_Ok 20 elay kcode eI d 35 (0, [(0, (1, 8))], [], w) (fun r w' => r = [] ∧ e_fr kDr w w' ∧ e_Has kTy w' ∧ (∀ t, 0 ≤ t → t ≤ 15 → tR0 w' t) ∧ (∀ k, 0 ≤ k → k < 8 → w' 83 k = -1) ∧ w' 8 9 = 0) := by
  obtain ⟨d, rfl⟩ : ∃ e, d = e + 1 := ⟨d - 1, by omega⟩
  refine e_Ok.run (t' := (2, [(1, (0, 0)), (0, (1, 8))], [], w)) 2 rfl ?_
  have hL1 : ∀ (nn : Nat) (y1 : Int) (v1 : eW), e_fr kDr w v1 ∧ e_Has kTy v1 ∧ (∀ i, 0 ≤ i → i < y1 → tR0 v1 i) ∧ (0 ≤ y1 ∧ y1 ≤ 16) → 16 - y1 < nn → e_Ok 20 elay kcode eI (d + 1) 35 (2, [(0, (1, 8)), (1, (0, y1))], [], v1) (fun r w' => r = [] ∧ e_fr kDr w w' ∧ e_Has kTy w' ∧ (∀ t, 0 ≤ t → t ≤ 15 → tR0 w' t) ∧ (∀ k, 0 ≤ k → k < 8 → w' 83 k = -1) ∧ w' 8 9 = 0) := by
    intro nn
    induction nn with
    | zero => intro y1 v1 hj hm; obtain ⟨j3, j4, j5, j6⟩ := hj; exfalso; omega
    | succ nn ih2 =>
      intro y1 v1 hj hm
      obtain ⟨j3, j4, j5, j6⟩ := hj
      refine e_Ok.run (t' := (5, [(0, (1, 8)), (1, (0, y1))], [(0, 16), (0, y1)], v1)) 2 rfl ?_
      refine e_Ok.if2 rfl (fun h7 => ?_) (fun h7 => ?_)
      · replace h7 : (y1 : Int) ≥ 16 := h7
        refine e_Ok.ps1 (x := (1, 8)) (q := 24) 1 rfl ?_
        refine e_Ok.getr (z := 83) rfl (el_o rfl) rfl rfl ((j3 8 5 no_cz_13).trans (e_Has.eq hT (kt_o rfl))) ⟨by decide, by decide⟩ ?_
        refine e_Ok.ps1 (x := (0, (-1))) (q := 28) 1 rfl ?_
        refine e_Ok.callS rfl (e_dq hd rfl) rfl rfl (c_452_83 j4) (fun r8 w9 h10 => ?_)
        obtain ⟨rfl, q11f, q11T, q11x⟩ := h10
        refine e_Ok.nrm (q := 31) (st' := []) rfl rfl ?_
        refine e_Ok.ps2 (x := (0, 0)) (y := (1, 8)) (q := 33) 2 rfl ?_
        refine e_Ok.putf rfl (el_o rfl) rfl rfl ?_
        generalize hw13 : e_up w9 8 9 0 = w13
        have hT15 : e_Has kTy w13 := e_Has.upr q11T hw13 (kt_o rfl) (by omega)
        refine e_Ok.rets rfl rfl ?_
        exact ⟨rfl, (show e_fr kDr w w13 from e_fr.up (show e_fr kDr w w9 from e_fr.trans j3 (e_fr.mono q11f (fun c k q => su_cz_20 q))) hw13 (by first | exact Or.inr (Or.inr ⟨rfl, rfl⟩) | (unfold kDr; omega))), hT15, (fun t g1 g2 => ((j5 t g1 (by omega)).fr q11f (fun k => by unfold kF83; omega)).fr (S := fun c k => c = 8) (fun c k g => by rw [← hw13]; exact e_up_ne _ _ (Or.inl g)) (fun k => by omega)), (fun k g1 g2 => by rw [← hw13, e_up_ne _ _ (by omega)]; exact q11x k g1 g2), (e_ue hw13)⟩
      · replace h7 : (y1 : Int) < 16 := Int.not_le.mp (show ¬ ((y1 : Int) ≥ 16) from h7)
        refine e_Ok.ps1 (x := (1, 8)) (q := 9) 1 rfl ?_
        refine e_Ok.getr (z := 82) rfl (el_o rfl) rfl rfl ((j3 8 4 no_cz_14).trans (e_Has.eq hT (kt_o rfl))) ⟨by decide, by decide⟩ ?_
        refine e_Ok.ps1 (x := (0, y1)) (q := 13) 1 rfl ?_
        refine e_Ok.aald (z := 6 * y1 + 154) rfl (el_o rfl) rfl (by omega) ((j3 82 y1 no_cz_15).trans (Eq.trans (e_Has.eq hT (k82 (by omega))) (by omega))) (by omega) ?_
        refine e_Ok.callV rfl (e_dq hd rfl) rfl (lT0 (t := y1) (by omega) (by omega)) rfl rfl (c_179 (e_dq hd rfl) (t := y1) j4 (by omega)) (fun r16 w17 h18 => ?_)
        obtain ⟨rfl, q19f, q19T, q19x⟩ := h18
        refine e_Ok.nrm (q := 17) (st' := []) rfl rfl ?_
        refine e_Ok.inc (z := y1 + 1) rfl rfl (by first | with_reducible rfl | omega) (by omega) ?_
        show e_Ok 20 elay kcode eI (d + 1) 35 (20, [(1, (0, y1 + 1)), (0, (1, 8))], [], w17) _
        refine e_Ok.ps0 (q := 2) 1 rfl ?_
        refine e_Ok.sub kAlk (e_sub_of rfl ?_) (ih2 (y1 + 1) w17 ⟨(show e_fr kDr w w17 from e_fr.trans j3 (e_fr.mono q19f (fun c k q => by unfold kTk at q; unfold kDr; omega))), q19T, (fun i g1 g2 => by by_cases e : i = y1; (rw [e]; exact q19x); (exact (j5 i g1 (by omega)).fr q19f (fun k => by unfold kTk; omega))), by omega⟩ (by omega))
        exact ⟨rfl, rfl, trivial⟩
  refine e_Ok.sub kAlk (e_sub_of rfl ?_) (hL1 (16 + 1 : Int).toNat 0 w ⟨(e_fr.refl w), hT, (fun i g1 g2 => by omega), by omega⟩ (by omega))
  exact ⟨rfl, rfl, trivial⟩
theorem no_cz_16 {k : Int} : ¬ kSe 10 k := by unfold kSe; omega
theorem no_cz_17 {k : Int} : ¬ kPr 10 k := by unfold kPr; omega
theorem su_cz_21 {c k : Int} (q : kF11 c k) : kPr c k := by
  unfold kF11 at q
  rcases q with q
  · exact Or.inl ⟨(by omega), (by omega)⟩
theorem su_cz_22 {c k : Int} (q : kSe c k) : kPr c k := by
  unfold kSe at q
  rcases q with q | q
  · exact Or.inl ⟨(by omega), (by omega)⟩
  · exact Or.inl ⟨(by omega), (by omega)⟩
theorem su_cz_23 {c k : Int} (q : kF13 c k) : kPr c k := by
  unfold kF13 at q
  rcases q with q
  · exact Or.inl ⟨(by omega), (by omega)⟩
theorem c_110 {d : Nat} (hd : 23 ≤ d) {w : eW} (hT : e_Has kTy w) : e_Ok 20 elay kcode eI d 110 (0, [(0, (1, 10))], [], w) (fun r w' => r = [] ∧ e_fr kPr w w' ∧ e_Has kTy w' ∧ ((∀ p, 0 ≤ p → p < 64 → w' 11 p = 0) ∧ (∀ p, 0 ≤ p → p < 64 → w' 16 p = 0) ∧ ∀ p, 0 ≤ p → p < 64 → w' 13 p = 0) ∧ ∀ V, vFx w V → pTo w → ∀ k, 0 ≤ k → k < 64 → w' 12 (w 18 k) = V (w 18 k)) := by
  obtain ⟨d, rfl⟩ : ∃ e, d = e + 1 := ⟨d - 1, by omega⟩
  refine e_Ok.ps1 (x := (1, 10)) (q := 1) 1 rfl ?_
  refine e_Ok.getr (z := 11) rfl (el_o rfl) rfl rfl (e_Has.eq hT (kt_o rfl)) ⟨by decide, by decide⟩ ?_
  refine e_Ok.ps1 (x := (0, 0)) (q := 5) 1 rfl ?_
  refine e_Ok.callS rfl (e_dq hd rfl) rfl rfl (c_452_11 hT) (fun r1 w2 h3 => ?_)
  obtain ⟨rfl, q4f, q4T, q4x⟩ := h3
  refine e_Ok.nrm (q := 8) (st' := []) rfl rfl ?_
  refine e_Ok.run (t' := (10, [(1, (0, 0)), (0, (1, 10))], [], w2)) 2 rfl ?_
  have hL6 : ∀ (nn : Nat) (y1 : Int) (v1 : eW), e_fr kPr w v1 ∧ e_Has kTy v1 ∧ (∀ i, 0 ≤ i → i < 64 → v1 11 i = 0) ∧ (∀ i, 0 ≤ i → i < y1 → v1 16 i = 0) ∧ (0 ≤ y1 ∧ y1 ≤ 64) → 64 - y1 < nn → e_Ok 20 elay kcode eI (d + 1) 110 (10, [(0, (1, 10)), (1, (0, y1))], [], v1) (fun r w' => r = [] ∧ e_fr kPr w w' ∧ e_Has kTy w' ∧ ((∀ p, 0 ≤ p → p < 64 → w' 11 p = 0) ∧ (∀ p, 0 ≤ p → p < 64 → w' 16 p = 0) ∧ ∀ p, 0 ≤ p → p < 64 → w' 13 p = 0) ∧ ∀ V, vFx w V → pTo w → ∀ k, 0 ≤ k → k < 64 → w' 12 (w 18 k) = V (w 18 k)) := by
    intro nn
    induction nn with
    | zero => intro y1 v1 hj hm; obtain ⟨j8, j9, j10, j11, j12⟩ := hj; exfalso; omega
    | succ nn ih7 =>
      intro y1 v1 hj hm
      obtain ⟨j8, j9, j10, j11, j12⟩ := hj
      refine e_Ok.run (t' := (13, [(0, (1, 10)), (1, (0, y1))], [(0, 64), (0, y1)], v1)) 2 rfl ?_
      refine e_Ok.if2 rfl (fun h13 => ?_) (fun h13 => ?_)
      · replace h13 : (y1 : Int) ≥ 64 := h13
        refine e_Ok.ps1 (x := (1, 10)) (q := 30) 1 rfl ?_
        refine e_Ok.callV rfl (e_dq hd rfl) rfl rfl rfl rfl (c_116 (e_dq hd rfl) j9 (fun p g1 g2 g3 => absurd (j11 p g1 (by omega)) g3)) (fun r14 w15 h16 => ?_)
        obtain ⟨rfl, q17f, q17T, q17x⟩ := h16
        refine e_Ok.nrm (q := 33) (st' := []) rfl rfl ?_
        refine e_Ok.ps1 (x := (1, 10)) (q := 34) 1 rfl ?_
        refine e_Ok.getr (z := 13) rfl (el_o rfl) rfl rfl ((q17f 10 2 no_cz_16).trans ((j8 10 2 no_cz_17).trans (e_Has.eq hT (kt_o rfl)))) ⟨by decide, by decide⟩ ?_
        refine e_Ok.ps1 (x := (0, 0)) (q := 38) 1 rfl ?_
        refine e_Ok.callS rfl (e_dq hd rfl) rfl rfl (c_452_13 q17T) (fun r19 w20 h21 => ?_)
        obtain ⟨rfl, q22f, q22T, q22x⟩ := h21
        refine e_Ok.nrm (q := 41) (st' := []) rfl rfl ?_
        refine e_Ok.rets rfl rfl ?_
        refine ⟨rfl, (show e_fr kPr w w20 from e_fr.trans (show e_fr kPr w w15 from e_fr.trans j8 (e_fr.mono q17f (fun c k q => su_cz_22 q))) (e_fr.mono q22f (fun c k q => su_cz_23 q))), q22T, ⟨(fun p g1 g2 => by rw [q22f _ _ (by unfold kF13; omega), q17f _ _ (by unfold kSe; omega)]; exact j10 p g1 g2), (fun p g1 g2 => by rw [q22f _ _ (by unfold kF13; omega), q17f _ _ (by unfold kSe; omega)]; exact j11 p g1 (by omega)), q22x⟩, fun V hV hP k g1 g2 => ?_⟩
        have eF : ∀ c k, c ≠ 11 → c ≠ 16 → c ≠ 12 → c ≠ 13 → v1 c k = w c k := fun c k g1 g2 g3 g4 => j8 c k (by unfold kPr; omega)
        rw [q22f _ _ (by unfold kF13; omega), ← eF 18 k (by decide) (by decide) (by decide) (by decide)]
        refine q17x V (hV.pFx (fun p => eF _ _ (by decide) (by decide) (by decide) (by decide)) (fun p => eF _ _ (by decide) (by decide) (by decide) (by decide)) j10 (fun p g1 g2 => j11 p g1 (by omega))) ?_ k g1 g2
        intro i g3 g4 g5
        rw [eF 18 i (by decide) (by decide) (by decide) (by decide), eF 15 _ (by decide) (by decide) (by decide) (by decide)] at g5 ⊢
        obtain ⟨j, hj1, hj2⟩ := hP i g3 g4 g5
        exact ⟨j, hj1, by rw [eF 18 j (by decide) (by decide) (by decide) (by decide)]; exact hj2⟩
      · replace h13 : (y1 : Int) < 64 := Int.not_le.mp (show ¬ ((y1 : Int) ≥ 64) from h13)
        refine e_Ok.ps1 (x := (1, 10)) (q := 17) 1 rfl ?_
        refine e_Ok.getr (z := 16) rfl (el_o rfl) rfl rfl ((j8 10 5 no_cz_17).trans (e_Has.eq hT (kt_o rfl))) ⟨by decide, by decide⟩ ?_
        refine e_Ok.ps2 (x := (0, 0)) (y := (0, y1)) (q := 22) 2 rfl ?_
        refine e_Ok.ast rfl (el_o rfl) rfl (e_nar_b (by omega)) (by omega) ?_
        generalize hw24 : e_up v1 16 y1 0 = w24
        have hT26 : e_Has kTy w24 := e_Has.upr j9 hw24 rfl (by omega)
        refine e_Ok.inc (z := y1 + 1) rfl rfl (by first | with_reducible rfl | omega) (by omega) ?_
        show e_Ok 20 elay kcode eI (d + 1) 110 (26, [(1, (0, y1 + 1)), (0, (1, 10))], [], w24) _
        refine e_Ok.ps0 (q := 10) 1 rfl ?_
        refine e_Ok.sub kAlk (e_sub_of rfl ?_) (ih7 (y1 + 1) w24 ⟨(show e_fr kPr w w24 from e_fr.up j8 hw24 (by first | exact Or.inr rfl | (unfold kPr; omega))), hT26, (fun i g1 g2 => by rw [← hw24, e_up_ne _ _ (by omega)]; exact j10 i g1 g2), (fun i g1 g2 => by rw [← hw24]; by_cases e : i = y1; (rw [e, e_up_eq]); (rw [e_up_ne _ _ (Or.inr e)]; exact j11 i g1 (by omega))), by omega⟩ (by omega))
        exact ⟨rfl, rfl, trivial⟩
  refine e_Ok.sub kAlk (e_sub_of rfl ?_) (hL6 (64 + 1 : Int).toNat 0 w2 ⟨(show e_fr kPr w w2 from e_fr.trans (e_fr.refl w) (e_fr.mono q4f (fun c k q => su_cz_21 q))), q4T, q4x, (fun i g1 g2 => by omega), by omega⟩ (by omega))
  exact ⟨rfl, rfl, trivial⟩
end
end
