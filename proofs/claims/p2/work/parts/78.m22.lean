noncomputable section
theorem mCf.fr {w w' : eW} (h : mCf w) (hf : ∀ c k, c = 286 ∨ c = 290 ∨ c = 291 → w' c k = w c k) : mCf w' := fun a j g1 g2 g3 g4 => by
  rw [hf 290 _ (by omega), hf 291 _ (by omega)]
  rw [hf 286 _ (by omega)] at g4
  exact h a j g1 g2 g3 g4
def mGo (a c k : Int) : Prop := c = 276 ∧ 36 * a + 44 ≤ k ∧ k ≤ 36 * a + 49
def mMv (t a c k : Int) : Prop := mLv t c k ∨ (c = 276 ∧ (k = 36 * a + 16 ∨ k = 36 * a + 24 ∨ k = 36 * a + 25 ∨ k = 36 * a + 27 ∨ (36 * a + 44 ≤ k ∧ k ≤ 36 * a + 49) ∨ k = 1260 * t + 423))
theorem moK_lv {t c k : Int} (ht : 0 ≤ t ∧ t ≤ 15) (q : moK c k) : ¬ mLv t c k := by unfold moK at q; unfold mLv; omega
theorem moK_mv {t a c k : Int} (ht : 0 ≤ t ∧ t ≤ 15) (ha : 0 ≤ a ∧ a ≤ 3) (q : moK c k) (q2 : ¬ (c = 276 ∧ ((36 * a + 44 ≤ k ∧ k ≤ 36 * a + 49) ∨ k = 36 * a + 23))) : ¬ mMv t a c k := fun h => h.elim (moK_lv ht q) (fun h => by unfold moK at q; omega)
theorem moK_275 {c k i : Int} (q : moK c k) (hi : i ≠ 10) : c ≠ 275 ∨ k ≠ i := by unfold moK at q; omega
theorem moK_now {c k i : Int} (q : moK c k) (hi : 160 ≤ i ∧ i < 21060) : c ≠ 276 ∨ k ≠ i := by unfold moK at q; omega
set_option maxHeartbeats 4000000 in
theorem c_380 {d : Nat} (hd : 33 ≤ d) {w : eW} (hT : e_Has mTy w) (hCf : mCf w) (hMo : mMo w (-1)) {t a g : Int} (ht : 0 ≤ t ∧ t ≤ 15) (ha : 0 ≤ a ∧ a ≤ 3) (h96 : w 275 96 = t) (h97 : w 275 97 = 1260 * t + 416) (h98 : w 275 98 = a) {n nt nw : Int} {dl sg pi en : Int → Int} {an br : Int → Int → Prop} {bs ow : Int → Int} (hC : cOk w a n nt nw dl sg pi en an br) {p : Int} (hP : topOk w a t g p n nt nw dl sg pi an br bs ow) (hE : w 276 5 ≤ 2147483000) (h102 : w 275 102 = dl p) (hst : e_kn w 345 0 (dl p - 1)) (hop : w 328 (10000 * a + p) = 32) : e_Ok 20 elay ecode eI d 380 (0, [(0, (1, 275)), (1, (0, w 329 (10000 * a + p))), (2, (0, p))], [], w) (fun r' w' => r' = [] ∧ e_fr (mMv t a) w w' ∧ e_Has mTy w' ∧ (w 276 5 ≤ w' 276 5 ∧ w' 276 5 ≤ w 276 5 + 2) ∧ mMo w' (-1) ∧ ((w' 275 102 = 0 ∧ ((w' 275 100 = 1 ∧ (w' 276 (1260 * t + 416) = 6 ∨ w' 276 (1260 * t + 416) = 7)) ∨ (w' 275 100 = w 275 100 ∧ w' 276 (1260 * t + 416) = w 276 (1260 * t + 416) ∧ w' 276 5 = w 276 5 ∧ ∃ (g' p' : Int) (bs' ow' : Int → Int), g' ≤ g ∧ (g' = g → p < p') ∧ topOk w' a t g' p' n nt nw dl sg pi an br bs' ow' ∧ dl p' = 0 ∧ sg p' = 0))) ∨ (w' 275 100 = 1 ∧ w' 276 (1260 * t + 416) = 2 ∧ topOk w' a t g (p + 1) n nt nw dl sg pi an br bs ow ∧ dl (p + 1) = 0))) := by
  obtain ⟨d, rfl⟩ : ∃ e, d = e + 1 := ⟨d - 1, by omega⟩
  obtain ⟨hpn, hpc, hru⟩ := id hP
  obtain ⟨hg, hF, hlow, hrr, hPn, hch, hpe⟩ := id hru
  have hCn := hC.1
  have hins := hC.2.1 p hpn.1 hpn.2
  have hbg := hlow.2.1 g (by omega) (by omega)
  have hpen := hins.1.2.2.2.1
  have hpib := hC.2.2.2.1.2.1 _ hrr.1 hrr.2
  obtain ⟨hi0, hi1, hi2, hi3, hi4, hi5, hi6, hi7, hi8, hi9, hi10, hi11, hi12, hi13, hi14, hi15, hi16, hi17, hi18, hi19⟩ := id hins
  have hja := (e_Has.get hT (c := 286) (k := a) (lo := 0) (hi := 6) rfl (by decide))
  have k8 := hi8 (by omega)
  unfold iS iFT at k8
  have k10 := hi10 hop
  refine e_Ok.run (t' := (2, [(0, (1, 275)), (1, (0, w 329 (10000 * a + p))), (2, (0, p))], [(1, 275), (0, w 329 (10000 * a + p))], w)) 2 rfl ?_
  refine e_Ok.getr (z := 286) rfl rfl rfl rfl (e_Has.eq hT rfl) (by omega) ?_
  refine e_Ok.run (t' := (6, [(0, (1, 275)), (1, (0, w 329 (10000 * a + p))), (2, (0, p))], [(1, 275), (1, 286), (0, w 329 (10000 * a + p))], w)) 1 rfl ?_
  refine e_Ok.getf (z := a) rfl rfl rfl rfl h98 (by omega) ?_
  refine e_Ok.ald (z := w 286 a) rfl rfl rfl (by omega) rfl (by omega) ?_
  refine e_Ok.if2 rfl (fun h1 => ?_) (fun h1 => ?_)
  · replace h1 : (w 329 (10000 * a + p) : Int) ≠ w 286 a := h1
    refine e_Ok.run (t' := (22, [(4, (0, 0)), (3, (0, 0)), (0, (1, 275)), (1, (0, w 329 (10000 * a + p))), (2, (0, p))], [], w)) 4 rfl ?_
    have hL2 : ∀ (nn : Nat) (y3 : Int) (y4 : Int), (0 ≤ y3 ∧ y3 ≤ 1) ∧ (0 ≤ y4 ∧ y4 ≤ 6) ∧ ((y3 = 1 → w 329 (10000 * a + p) = w 286 a ∧ ∀ j, 0 ≤ j → j < y4 → w 288 (6 * a + j) ≤ w 345 j ∧ w 345 j ≤ w 289 (6 * a + j))) → 7 - y4 < nn → e_Ok 20 elay ecode eI (d + 1) 380 (22, [(0, (1, 275)), (1, (0, w 329 (10000 * a + p))), (2, (0, p)), (3, (0, y3)), (4, (0, y4))], [], w) (fun r' w' => r' = [] ∧ e_fr (mMv t a) w w' ∧ e_Has mTy w' ∧ (w 276 5 ≤ w' 276 5 ∧ w' 276 5 ≤ w 276 5 + 2) ∧ mMo w' (-1) ∧ ((w' 275 102 = 0 ∧ ((w' 275 100 = 1 ∧ (w' 276 (1260 * t + 416) = 6 ∨ w' 276 (1260 * t + 416) = 7)) ∨ (w' 275 100 = w 275 100 ∧ w' 276 (1260 * t + 416) = w 276 (1260 * t + 416) ∧ w' 276 5 = w 276 5 ∧ ∃ (g' p' : Int) (bs' ow' : Int → Int), g' ≤ g ∧ (g' = g → p < p') ∧ topOk w' a t g' p' n nt nw dl sg pi an br bs' ow' ∧ dl p' = 0 ∧ sg p' = 0))) ∨ (w' 275 100 = 1 ∧ w' 276 (1260 * t + 416) = 2 ∧ topOk w' a t g (p + 1) n nt nw dl sg pi an br bs ow ∧ dl (p + 1) = 0))) := by
      intro nn
      induction nn with
      | zero => intro y3 y4 hj hm; obtain ⟨j4, j5, j6⟩ := hj; exfalso; omega
      | succ nn ih3 =>
        intro y3 y4 hj hm
        obtain ⟨j4, j5, j6⟩ := hj
        refine e_Ok.run (t' := (25, [(0, (1, 275)), (1, (0, w 329 (10000 * a + p))), (2, (0, p)), (3, (0, y3)), (4, (0, y4))], [(1, 275), (0, y4)], w)) 2 rfl ?_
        refine e_Ok.getr (z := 286) rfl rfl rfl rfl (e_Has.eq hT rfl) (by omega) ?_
        refine e_Ok.run (t' := (29, [(0, (1, 275)), (1, (0, w 329 (10000 * a + p))), (2, (0, p)), (3, (0, y3)), (4, (0, y4))], [(1, 275), (1, 286), (0, y4)], w)) 1 rfl ?_
        refine e_Ok.getf (z := a) rfl rfl rfl rfl h98 (by omega) ?_
        refine e_Ok.ald (z := w 286 a) rfl rfl rfl (by omega) rfl (by omega) ?_
        refine e_Ok.if2 rfl (fun h7 => ?_) (fun h7 => ?_)
        · replace h7 : (y4 : Int) ≥ w 286 a := h7
          refine e_Ok.run (t' := (91, [(0, (1, 275)), (1, (0, w 329 (10000 * a + p))), (2, (0, p)), (3, (0, y3)), (4, (0, y4))], [(1, 275)], w)) 1 rfl ?_
          refine e_Ok.getf (z := a) rfl rfl rfl rfl h98 (by omega) ?_
          refine e_Ok.callS rfl (by omega) rfl rfl (c_268 (by omega)) (fun r8 w9 h10 => ?_)
          obtain ⟨rfl, rfl⟩ := h10
          show e_Ok 20 elay ecode eI (d + 1) 380 (97, [(0, (1, 275)), (1, (0, w 329 (10000 * a + p))), (2, (0, p)), (3, (0, y3)), (4, (0, y4))], [(0, 36 * a + 16)], w) _
          refine e_Ok.run (t' := (100, [(4, (0, 36 * a + 16)), (0, (1, 275)), (1, (0, w 329 (10000 * a + p))), (2, (0, p)), (3, (0, y3))], [(0, y3)], w)) 2 rfl ?_
          refine e_Ok.if1 rfl (fun h11 => ?_) (fun h11 => ?_)
          · replace h11 : (y3 : Int) ≠ 0 := h11
            refine e_Ok.run (t' := (108, [(4, (0, 36 * a + 16)), (0, (1, 275)), (1, (0, w 329 (10000 * a + p))), (2, (0, p)), (3, (0, y3))], [(1, 275)], w)) 1 rfl ?_
            refine e_Ok.getr (z := 276) rfl rfl rfl rfl (e_Has.eq hT rfl) (by omega) ?_
            refine e_Ok.run (t' := (114, [(4, (0, 36 * a + 16)), (0, (1, 275)), (1, (0, w 329 (10000 * a + p))), (2, (0, p)), (3, (0, y3))], [(0, 0), (0, 36 * a + 16), (1, 276)], w)) 2 rfl ?_
            refine e_Ok.add (z := 36 * a + 16) rfl (by omega) (by omega) ?_
            have h12 := (e_Has.get hT (c := 276) (k := 36 * a + 16) (lo := 0) (hi := 2) (nR_STATE (a := a) (by omega)) (by decide))
            refine e_Ok.ald (z := w 276 (36 * a + 16)) rfl rfl rfl (by omega) rfl (by omega) ?_
            refine e_Ok.if1 rfl (fun h13 => ?_) (fun h13 => ?_)
            · replace h13 : (w 276 (36 * a + 16) : Int) = 0 := h13
              refine e_Ok.run (t' := (124, [(4, (0, 36 * a + 16)), (0, (1, 275)), (1, (0, w 329 (10000 * a + p))), (2, (0, p)), (3, (0, y3))], [(1, 275)], w)) 1 rfl ?_
              refine e_Ok.getr (z := 276) rfl rfl rfl rfl (e_Has.eq hT rfl) (by omega) ?_
              refine e_Ok.run (t' := (128, [(4, (0, 36 * a + 16)), (0, (1, 275)), (1, (0, w 329 (10000 * a + p))), (2, (0, p)), (3, (0, y3))], [(0, 1), (1, 276)], w)) 1 rfl ?_
              have h14 := (e_Has.get hT (c := 276) (k := 1) (lo := 0) (hi := 1) rfl (by decide))
              refine e_Ok.ald (z := w 276 1) rfl rfl rfl (by omega) rfl (by omega) ?_
              refine e_Ok.if1 rfl (fun h15 => ?_) (fun h15 => ?_)
              · replace h15 : (w 276 1 : Int) ≠ 0 := h15
                refine e_Ok.run (t' := (141, [(5, (0, 0)), (4, (0, 36 * a + 16)), (0, (1, 275)), (1, (0, w 329 (10000 * a + p))), (2, (0, p)), (3, (0, y3))], [(0, 0)], w)) 3 rfl ?_
                refine e_Ok.if1 rfl (fun h16 => ?_) (fun h16 => ?_)
                · replace h16 : (0 : Int) = 0 := h16
                  have hfit := j6 (by omega)
                  refine e_Ok.run (t' := (154, [(6, (0, 0)), (5, (0, 0)), (4, (0, 36 * a + 16)), (0, (1, 275)), (1, (0, w 329 (10000 * a + p))), (2, (0, p)), (3, (0, y3))], [], w)) 2 rfl ?_
                  have hL17 : ∀ (nn : Nat) (y6 : Int) (v2 : eW), e_fr (mMv t a) w v2 ∧ e_Has mTy v2 ∧ (0 ≤ y6 ∧ y6 ≤ 6) ∧ (∀ j, 0 ≤ j → j < y6 → v2 276 (36 * a + j + 44) = w 345 j) ∧ e_fr (mGo a) w v2 → 7 - y6 < nn → e_Ok 20 elay ecode eI (d + 1) 380 (154, [(0, (1, 275)), (1, (0, w 329 (10000 * a + p))), (2, (0, p)), (4, (0, 36 * a + 16)), (6, (0, y6))], [], v2) (fun r' w' => r' = [] ∧ e_fr (mMv t a) w w' ∧ e_Has mTy w' ∧ (w 276 5 ≤ w' 276 5 ∧ w' 276 5 ≤ w 276 5 + 2) ∧ mMo w' (-1) ∧ ((w' 275 102 = 0 ∧ ((w' 275 100 = 1 ∧ (w' 276 (1260 * t + 416) = 6 ∨ w' 276 (1260 * t + 416) = 7)) ∨ (w' 275 100 = w 275 100 ∧ w' 276 (1260 * t + 416) = w 276 (1260 * t + 416) ∧ w' 276 5 = w 276 5 ∧ ∃ (g' p' : Int) (bs' ow' : Int → Int), g' ≤ g ∧ (g' = g → p < p') ∧ topOk w' a t g' p' n nt nw dl sg pi an br bs' ow' ∧ dl p' = 0 ∧ sg p' = 0))) ∨ (w' 275 100 = 1 ∧ w' 276 (1260 * t + 416) = 2 ∧ topOk w' a t g (p + 1) n nt nw dl sg pi an br bs ow ∧ dl (p + 1) = 0))) := by
                    intro nn
                    induction nn with
                    | zero => intro y6 v2 hj hm; obtain ⟨j19, j20, j21, j22, j23⟩ := hj; exfalso; omega
                    | succ nn ih18 =>
                      intro y6 v2 hj hm
                      obtain ⟨j19, j20, j21, j22, j23⟩ := hj
                      refine e_Ok.run (t' := (157, [(0, (1, 275)), (1, (0, w 329 (10000 * a + p))), (2, (0, p)), (4, (0, 36 * a + 16)), (6, (0, y6))], [(0, w 329 (10000 * a + p)), (0, y6)], v2)) 2 rfl ?_
                      refine e_Ok.if2 rfl (fun h24 => ?_) (fun h24 => ?_)
                      · replace h24 : (y6 : Int) ≥ w 329 (10000 * a + p) := h24
                        refine e_Ok.run (t' := (188, [(0, (1, 275)), (1, (0, w 329 (10000 * a + p))), (2, (0, p)), (4, (0, 36 * a + 16)), (6, (0, y6))], [(1, 275), (1, 275)], v2)) 2 rfl ?_
                        refine e_Ok.getf (z := a) rfl rfl rfl rfl ((j23 275 98 (by unfold mGo; omega)).trans h98) (by omega) ?_
                        refine e_Ok.callV rfl (by omega) rfl rfl rfl rfl (c_381 (by omega) j20 (mCf.fr hCf (fun c k q => ((j23 c k (by unfold mGo; omega)).trans rfl))) (by omega)) (fun r25 w26 h27 => ?_)
                        obtain ⟨rfl, q28, q28T, q28s⟩ := h27
                        have f29 : e_fr (mMv t a) w w26 := e_fr.trans j19 (e_fr.mono q28 (fun c k q => by unfold mBe at q; unfold mMv mLv; omega))
                        show e_Ok 20 elay ecode eI (d + 1) 380 (194, [(0, (1, 275)), (1, (0, w 329 (10000 * a + p))), (2, (0, p)), (4, (0, 36 * a + 16)), (6, (0, y6))], [], w26) _
                        refine e_Ok.run (t' := (195, [(0, (1, 275)), (1, (0, w 329 (10000 * a + p))), (2, (0, p)), (4, (0, 36 * a + 16)), (6, (0, y6))], [(1, 275)], w26)) 1 rfl ?_
                        refine e_Ok.getr (z := 276) rfl rfl rfl rfl ((q28 275 0 (by unfold mBe; omega)).trans ((j23 275 0 (by unfold mGo; omega)).trans (e_Has.eq hT rfl))) (by omega) ?_
                        refine e_Ok.run (t' := (202, [(0, (1, 275)), (1, (0, w 329 (10000 * a + p))), (2, (0, p)), (4, (0, 36 * a + 16)), (6, (0, y6))], [(0, 9), (0, 36 * a + 16), (1, 276)], w26)) 2 rfl ?_
                        refine e_Ok.add (z := 36 * a + 25) rfl (by omega) (by omega) ?_
                        refine e_Ok.run (t' := (204, [(0, (1, 275)), (1, (0, w 329 (10000 * a + p))), (2, (0, p)), (4, (0, 36 * a + 16)), (6, (0, y6))], [(1, 275), (0, 36 * a + 25), (1, 276)], w26)) 1 rfl ?_
                        refine e_Ok.getf (z := t) rfl rfl rfl rfl ((q28 275 96 (by unfold mBe; omega)).trans ((j23 275 96 (by unfold mGo; omega)).trans h96)) (by omega) ?_
                        refine e_Ok.ast rfl rfl rfl rfl (by omega) ?_
                        generalize hw30 : e_up w26 276 (36 * a + 25) t = w30
                        have f31 : e_fr (mMv t a) w w30 := e_fr.up f29 hw30 (by unfold mMv mLv; omega)
                        have hT32 : e_Has mTy w30 := e_Has.upr q28T hw30 (nR_MOVER (a := a) (by omega)) (by omega)
                        refine e_Ok.run (t' := (209, [(0, (1, 275)), (1, (0, w 329 (10000 * a + p))), (2, (0, p)), (4, (0, 36 * a + 16)), (6, (0, y6))], [(1, 275)], w30)) 1 rfl ?_
                        refine e_Ok.getr (z := 276) rfl rfl rfl rfl (by rw [← hw30]; exact (e_up_ne _ _ (Or.inl (by omega))).trans ((q28 275 0 (by unfold mBe; omega)).trans ((j23 275 0 (by unfold mGo; omega)).trans (e_Has.eq hT rfl)))) (by omega) ?_
                        refine e_Ok.run (t' := (213, [(0, (1, 275)), (1, (0, w 329 (10000 * a + p))), (2, (0, p)), (4, (0, 36 * a + 16)), (6, (0, y6))], [(1, 275), (1, 276)], w30)) 1 rfl ?_
                        refine e_Ok.getf (z := 1260 * t + 416) rfl rfl rfl rfl (by rw [← hw30]; exact (e_up_ne _ _ (Or.inl (by omega))).trans ((q28 275 97 (by unfold mBe; omega)).trans ((j23 275 97 (by unfold mGo; omega)).trans h97))) (by omega) ?_
                        refine e_Ok.run (t' := (217, [(0, (1, 275)), (1, (0, w 329 (10000 * a + p))), (2, (0, p)), (4, (0, 36 * a + 16)), (6, (0, y6))], [(0, 2), (0, 1260 * t + 416), (1, 276)], w30)) 1 rfl ?_
                        refine e_Ok.ast rfl rfl rfl rfl (by omega) ?_
                        generalize hw33 : e_up w30 276 (1260 * t + 416) 2 = w33
                        have f34 : e_fr (mMv t a) w w33 := e_fr.up f31 hw33 (by unfold mMv mLv; omega)
                        have hT35 : e_Has mTy w33 := e_Has.upr hT32 hw33 (nR_TSTATE (t := t) (by omega)) (by omega)
                        refine e_Ok.run (t' := (219, [(0, (1, 275)), (1, (0, w 329 (10000 * a + p))), (2, (0, p)), (4, (0, 36 * a + 16)), (6, (0, y6))], [(1, 275)], w33)) 1 rfl ?_
                        refine e_Ok.getr (z := 276) rfl rfl rfl rfl (by rw [← hw33]; exact (e_up_ne _ _ (Or.inl (by omega))).trans (by rw [← hw30]; exact (e_up_ne _ _ (Or.inl (by omega))).trans ((q28 275 0 (by unfold mBe; omega)).trans ((j23 275 0 (by unfold mGo; omega)).trans (e_Has.eq hT rfl))))) (by omega) ?_
                        refine e_Ok.run (t' := (223, [(0, (1, 275)), (1, (0, w 329 (10000 * a + p))), (2, (0, p)), (4, (0, 36 * a + 16)), (6, (0, y6))], [(1, 275), (1, 276)], w33)) 1 rfl ?_
                        refine e_Ok.getf (z := 1260 * t + 416) rfl rfl rfl rfl (by rw [← hw33]; exact (e_up_ne _ _ (Or.inl (by omega))).trans (by rw [← hw30]; exact (e_up_ne _ _ (Or.inl (by omega))).trans ((q28 275 97 (by unfold mBe; omega)).trans ((j23 275 97 (by unfold mGo; omega)).trans h97)))) (by omega) ?_
                        refine e_Ok.run (t' := (228, [(0, (1, 275)), (1, (0, w 329 (10000 * a + p))), (2, (0, p)), (4, (0, 36 * a + 16)), (6, (0, y6))], [(0, 7), (0, 1260 * t + 416), (1, 276)], w33)) 1 rfl ?_
                        refine e_Ok.add (z := 1260 * t + 423) rfl (by omega) (by omega) ?_
                        refine e_Ok.run (t' := (230, [(0, (1, 275)), (1, (0, w 329 (10000 * a + p))), (2, (0, p)), (4, (0, 36 * a + 16)), (6, (0, y6))], [(0, 0), (0, 1260 * t + 423), (1, 276)], w33)) 1 rfl ?_
                        refine e_Ok.ast rfl rfl rfl rfl (by omega) ?_
                        generalize hw36 : e_up w33 276 (1260 * t + 423) 0 = w36
                        have f37 : e_fr (mMv t a) w w36 := e_fr.up f34 hw36 (by unfold mMv mLv; omega)
                        have hT38 : e_Has mTy w36 := e_Has.upr hT35 hw36 (nR_BROKEN (t := t) (by omega)) (by omega)
                        refine e_Ok.run (t' := (233, [(0, (1, 275)), (1, (0, w 329 (10000 * a + p))), (2, (0, p)), (4, (0, 36 * a + 16)), (6, (0, y6))], [(0, 1), (1, 275)], w36)) 2 rfl ?_
                        refine e_Ok.putb rfl rfl rfl rfl (by omega) ?_
                        generalize hw39 : e_up w36 275 100 1 = w39
                        have f40 : e_fr (mMv t a) w w39 := e_fr.up f37 hw39 (by unfold mMv mLv; omega)
                        have hT41 : e_Has mTy w39 := e_Has.ups hT38 hw39 rfl
                        refine e_Ok.run (t' := (239, [(0, (1, 275)), (1, (0, w 329 (10000 * a + p))), (2, (0, p)), (4, (0, 36 * a + 16)), (6, (0, y6))], [(0, 1), (0, p), (1, 275)], w39)) 3 rfl ?_
                        refine e_Ok.add (z := p + 1) rfl (by omega) (by omega) ?_
                        refine e_Ok.callV rfl (by omega) rfl rfl rfl rfl (c_365 (by omega) hT41 (by omega) (by rw [← hw39]; exact (e_up_ne _ _ (Or.inr (by omega))).trans (by rw [← hw36]; exact (e_up_ne _ _ (Or.inl (by omega))).trans (by rw [← hw33]; exact (e_up_ne _ _ (Or.inl (by omega))).trans (by rw [← hw30]; exact (e_up_ne _ _ (Or.inl (by omega))).trans ((q28 275 97 (by unfold mBe; omega)).trans ((j23 275 97 (by unfold mGo; omega)).trans h97)))))) (f := g + 1) (z := 1260 * t + 2 * g + 436) (by rw [← hw39]; exact (e_up_ne _ _ (Or.inl (by omega))).trans (by rw [← hw36]; exact (e_up_ne _ _ (Or.inr (by omega))).trans (by rw [← hw33]; exact (e_up_ne _ _ (Or.inr (by omega))).trans (by rw [← hw30]; exact (e_up_ne _ _ (Or.inr (by omega))).trans ((q28 276 (1260 * t + 428) (by unfold mBe; omega)).trans ((j23 276 (1260 * t + 428) (by unfold mGo; omega)).trans hF)))))) (by omega) (by omega)) (fun r42 w43 h44 => ?_)
                        obtain ⟨rfl, hw43⟩ := h44
                        have f45 : e_fr (mMv t a) w w43 := e_fr.up f40 hw43 (by unfold mMv mLv; omega)
                        have hT46 : e_Has mTy w43 := e_Has.upr hT41 hw43 (nR_FRg t (g) (by omega) (by omega) (by omega)) (by omega)
                        show e_Ok 20 elay ecode eI (d + 1) 380 (243, [(0, (1, 275)), (1, (0, w 329 (10000 * a + p))), (2, (0, p)), (4, (0, 36 * a + 16)), (6, (0, y6))], [], w43) _
                        refine e_Ok.rets rfl rfl ?_
                        have e47 : w43 276 5 = w 276 5 := (by rw [← hw43]; exact (e_up_ne _ _ (Or.inr (by omega))).trans (by rw [← hw39]; exact (e_up_ne _ _ (Or.inl (by omega))).trans (by rw [← hw36]; exact (e_up_ne _ _ (Or.inr (by omega))).trans (by rw [← hw33]; exact (e_up_ne _ _ (Or.inr (by omega))).trans (by rw [← hw30]; exact (e_up_ne _ _ (Or.inr (by omega))).trans ((q28 276 5 (by unfold mBe; omega)).trans ((j23 276 5 (by unfold mGo; omega)).trans rfl)))))))
                        have hmo : mMo w43 (-1) := mMo.begin hMo (Or.inl rfl) (e_Has.mo hT) ha (by omega) (by omega) (fun c k q q2 => f45 c k (moK_mv ht ha q q2)) (fun b g1 g2 g3 => ⟨(by rw [← hw43]; exact (e_up_ne _ _ (Or.inr (by omega))).trans (by rw [← hw39]; exact (e_up_ne _ _ (Or.inl (by omega))).trans (by rw [← hw36]; exact (e_up_ne _ _ (Or.inr (by omega))).trans (by rw [← hw33]; exact (e_up_ne _ _ (Or.inr (by omega))).trans (by rw [← hw30]; exact (e_up_ne _ _ (Or.inr (by omega))).trans ((q28 276 (36 * b + 16) (by unfold mBe; omega)).trans ((j23 276 (36 * b + 16) (by unfold mGo; omega)).trans rfl))))))), (by rw [← hw43]; exact (e_up_ne _ _ (Or.inr (by omega))).trans (by rw [← hw39]; exact (e_up_ne _ _ (Or.inl (by omega))).trans (by rw [← hw36]; exact (e_up_ne _ _ (Or.inr (by omega))).trans (by rw [← hw33]; exact (e_up_ne _ _ (Or.inr (by omega))).trans (by rw [← hw30]; exact (e_up_ne _ _ (Or.inr (by omega))).trans ((q28 276 (36 * b + 22) (by unfold mBe; omega)).trans ((j23 276 (36 * b + 22) (by unfold mGo; omega)).trans rfl)))))))⟩) (by rw [← hw43]; exact (e_up_ne _ _ (Or.inr (by omega))).trans (by rw [← hw39]; exact (e_up_ne _ _ (Or.inl (by omega))).trans (by rw [← hw36]; exact (e_up_ne _ _ (Or.inr (by omega))).trans (by rw [← hw33]; exact (e_up_ne _ _ (Or.inr (by omega))).trans (by rw [← hw30]; exact (e_up_ne _ _ (Or.inr (by omega))).trans q28s))))) (fun j g1 g2 => by rw [show w43 276 (36 * a + j + 44) = w 345 j from Eq.trans (by rw [← hw43]; exact (e_up_ne _ _ (Or.inr (by omega))).trans (by rw [← hw39]; exact (e_up_ne _ _ (Or.inl (by omega))).trans (by rw [← hw36]; exact (e_up_ne _ _ (Or.inr (by omega))).trans (by rw [← hw33]; exact (e_up_ne _ _ (Or.inr (by omega))).trans (by rw [← hw30]; exact (e_up_ne _ _ (Or.inr (by omega))).trans ((q28 276 (36 * a + j + 44) (by unfold mBe; omega)).trans rfl)))))) (j22 j g1 (by omega))]; exact hfit.2 j g1 (by omega)) (fun e => by have e1 := ((hMo.2.1 a ha.1 ha.2).2 (Eq.trans (Eq.symm (by rw [← hw43]; exact (e_up_ne _ _ (Or.inr (by omega))).trans (by rw [← hw39]; exact (e_up_ne _ _ (Or.inl (by omega))).trans (by rw [← hw36]; exact (e_up_ne _ _ (Or.inr (by omega))).trans (by rw [← hw33]; exact (e_up_ne _ _ (Or.inr (by omega))).trans (by rw [← hw30]; exact (e_up_ne _ _ (Or.inr (by omega))).trans ((q28 276 (36 * a + 22) (by unfold mBe; omega)).trans ((j23 276 (36 * a + 22) (by unfold mGo; omega)).trans rfl)))))))) e)).1; exfalso; omega)
                        have hrn := runOk.fr (w' := w43) (fun c k q1 q2 => (by rw [← hw43]; exact (e_up_ne _ _ (Or.inl (by omega))).trans (by rw [← hw39]; exact (e_up_ne _ _ (Or.inl (by omega))).trans (by rw [← hw36]; exact (e_up_ne _ _ (Or.inl (by omega))).trans (by rw [← hw33]; exact (e_up_ne _ _ (Or.inl (by omega))).trans (by rw [← hw30]; exact (e_up_ne _ _ (Or.inl (by omega))).trans ((q28 c k (by unfold mBe; omega)).trans ((j23 c k (by unfold mGo; omega)).trans rfl)))))))) (fun i q1 q2 => ⟨(by rw [← hw43]; exact (e_up_ne _ _ (Or.inr (by omega))).trans (by rw [← hw39]; exact (e_up_ne _ _ (Or.inl (by omega))).trans (by rw [← hw36]; exact (e_up_ne _ _ (Or.inr (by omega))).trans (by rw [← hw33]; exact (e_up_ne _ _ (Or.inr (by omega))).trans (by rw [← hw30]; exact (e_up_ne _ _ (Or.inr (by omega))).trans ((q28 276 (1260 * t + 2 * i + 436) (by unfold mBe; omega)).trans ((j23 276 (1260 * t + 2 * i + 436) (by unfold mGo; omega)).trans rfl))))))), (by rw [← hw43]; exact (e_up_ne _ _ (Or.inr (by omega))).trans (by rw [← hw39]; exact (e_up_ne _ _ (Or.inl (by omega))).trans (by rw [← hw36]; exact (e_up_ne _ _ (Or.inr (by omega))).trans (by rw [← hw33]; exact (e_up_ne _ _ (Or.inr (by omega))).trans (by rw [← hw30]; exact (e_up_ne _ _ (Or.inr (by omega))).trans ((q28 276 (1260 * t + 2 * i + 439) (by unfold mBe; omega)).trans ((j23 276 (1260 * t + 2 * i + 439) (by unfold mGo; omega)).trans rfl)))))))⟩) (by rw [← hw43]; exact (e_up_ne _ _ (Or.inr (by omega))).trans (by rw [← hw39]; exact (e_up_ne _ _ (Or.inl (by omega))).trans (by rw [← hw36]; exact (e_up_ne _ _ (Or.inr (by omega))).trans (by rw [← hw33]; exact (e_up_ne _ _ (Or.inr (by omega))).trans (by rw [← hw30]; exact (e_up_ne _ _ (Or.inr (by omega))).trans ((q28 276 (1260 * t + 428) (by unfold mBe; omega)).trans ((j23 276 (1260 * t + 428) (by unfold mGo; omega)).trans rfl))))))) (by rw [← hw43]; exact (e_up_ne _ _ (Or.inr (by omega))).trans (by rw [← hw39]; exact (e_up_ne _ _ (Or.inl (by omega))).trans (by rw [← hw36]; exact (e_up_ne _ _ (Or.inr (by omega))).trans (by rw [← hw33]; exact (e_up_ne _ _ (Or.inr (by omega))).trans (by rw [← hw30]; exact (e_up_ne _ _ (Or.inr (by omega))).trans ((q28 276 (1260 * t + 429) (by unfold mBe; omega)).trans ((j23 276 (1260 * t + 429) (by unfold mGo; omega)).trans rfl))))))) (fun k q1 q2 => (by rw [← hw43]; exact (e_up_ne _ _ (Or.inr (by omega))).trans (by rw [← hw39]; exact (e_up_ne _ _ (Or.inl (by omega))).trans (by rw [← hw36]; exact (e_up_ne _ _ (Or.inr (by omega))).trans (by rw [← hw33]; exact (e_up_ne _ _ (Or.inr (by omega))).trans (by rw [← hw30]; exact (e_up_ne _ _ (Or.inr (by omega))).trans ((q28 276 (1260 * t + k + 476) (by unfold mBe; omega)).trans ((j23 276 (1260 * t + k + 476) (by unfold mGo; omega)).trans rfl)))))))) (by omega) hru
                        have erg : w43 330 (10000 * a + (p + 1)) = w 330 (10000 * a + p) := by rw [show 10000 * a + (p + 1) = 10000 * a + p + 1 by omega]; exact Eq.trans (by rw [← hw43]; exact (e_up_ne _ _ (Or.inl (by omega))).trans (by rw [← hw39]; exact (e_up_ne _ _ (Or.inl (by omega))).trans (by rw [← hw36]; exact (e_up_ne _ _ (Or.inl (by omega))).trans (by rw [← hw33]; exact (e_up_ne _ _ (Or.inl (by omega))).trans (by rw [← hw30]; exact (e_up_ne _ _ (Or.inl (by omega))).trans ((q28 330 (10000 * a + p + 1) (by unfold mBe; omega)).trans ((j23 330 (10000 * a + p + 1) (by unfold mGo; omega)).trans rfl))))))) k8.1.2
                        exact ⟨rfl, f45, hT46, by omega, hmo, Or.inr ⟨(by rw [← hw43]; exact (e_up_ne _ _ (Or.inl (by omega))).trans (by rw [← hw39]; exact e_up_eq _ _ _ _)), (by rw [← hw43]; exact (e_up_ne _ _ (Or.inr (by omega))).trans (by rw [← hw39]; exact (e_up_ne _ _ (Or.inl (by omega))).trans (by rw [← hw36]; exact (e_up_ne _ _ (Or.inr (by omega))).trans (by rw [← hw33]; exact e_up_eq _ _ _ _)))), runOk.at hrn (by omega) (by rw [← hw43]; exact e_up_eq _ _ _ _) erg, by omega⟩⟩
                      · replace h24 : (y6 : Int) < w 329 (10000 * a + p) := by have q : ¬ ((y6 : Int) ≥ w 329 (10000 * a + p)) := h24; omega
                        have hgl := hfit.2 y6 (by omega) (by omega)
                        have hb288 := e_Has.get hT (c := 288) (k := 6 * a + y6) (lo := -100000) (hi := 0) rfl (by decide)
                        have hb289 := e_Has.get hT (c := 289) (k := 6 * a + y6) (lo := 0) (hi := 100000) rfl (by decide)
                        refine e_Ok.run (t' := (161, [(0, (1, 275)), (1, (0, w 329 (10000 * a + p))), (2, (0, p)), (4, (0, 36 * a + 16)), (6, (0, y6))], [(1, 275)], v2)) 1 rfl ?_
                        refine e_Ok.getr (z := 276) rfl rfl rfl rfl ((j23 275 0 (by unfold mGo; omega)).trans (e_Has.eq hT rfl)) (by omega) ?_
                        refine e_Ok.run (t' := (168, [(0, (1, 275)), (1, (0, w 329 (10000 * a + p))), (2, (0, p)), (4, (0, 36 * a + 16)), (6, (0, y6))], [(0, 28), (0, 36 * a + 16), (1, 276)], v2)) 2 rfl ?_
                        refine e_Ok.add (z := 36 * a + 44) rfl (by omega) (by omega) ?_
                        refine e_Ok.run (t' := (171, [(0, (1, 275)), (1, (0, w 329 (10000 * a + p))), (2, (0, p)), (4, (0, 36 * a + 16)), (6, (0, y6))], [(0, y6), (0, 36 * a + 44), (1, 276)], v2)) 1 rfl ?_
                        refine e_Ok.add (z := 36 * a + y6 + 44) rfl (by omega) (by omega) ?_
                        refine e_Ok.run (t' := (173, [(0, (1, 275)), (1, (0, w 329 (10000 * a + p))), (2, (0, p)), (4, (0, 36 * a + 16)), (6, (0, y6))], [(1, 275), (0, 36 * a + y6 + 44), (1, 276)], v2)) 1 rfl ?_
                        refine e_Ok.getr (z := 345) rfl rfl rfl rfl ((j23 275 101 (by unfold mGo; omega)).trans (e_Has.eq hT rfl)) (by omega) ?_
                        refine e_Ok.run (t' := (178, [(0, (1, 275)), (1, (0, w 329 (10000 * a + p))), (2, (0, p)), (4, (0, 36 * a + 16)), (6, (0, y6))], [(0, y6), (1, 345), (0, 36 * a + y6 + 44), (1, 276)], v2)) 1 rfl ?_
                        have h48 := (hst y6 (by omega) (by omega))
                        refine e_Ok.ald (z := w 345 y6) rfl rfl rfl (by omega) ((j23 345 y6 (by unfold mGo; omega)).trans rfl) (by omega) ?_
                        refine e_Ok.ast rfl rfl rfl rfl (by omega) ?_
                        generalize hw49 : e_up v2 276 (36 * a + y6 + 44) (w 345 y6) = w49
                        have f50 : e_fr (mMv t a) w w49 := e_fr.up j19 hw49 (by unfold mMv mLv; omega)
                        have hT51 : e_Has mTy w49 := e_Has.upr j20 hw49 (nR_GOAL (a := a) (j := y6) (by omega) (by omega)) (by omega)
                        refine e_Ok.inc (z := y6 + 1) rfl rfl (by omega) (by omega) ?_
                        show e_Ok 20 elay ecode eI (d + 1) 380 (183, [(6, (0, y6 + 1)), (0, (1, 275)), (1, (0, w 329 (10000 * a + p))), (2, (0, p)), (4, (0, 36 * a + 16))], [], w49) _
                        refine e_Ok.run (t' := (154, [(6, (0, y6 + 1)), (0, (1, 275)), (1, (0, w 329 (10000 * a + p))), (2, (0, p)), (4, (0, 36 * a + 16))], [], w49)) 1 rfl ?_
                        refine e_Ok.sub eAlk (e_sub_of rfl ?_) (ih18 (y6 + 1) w49 ⟨f50, hT51, by omega, (fun j g1 g2 => Decidable.byCases (p := j = y6) (fun e => by rw [e, ← hw49]; exact e_up_eq _ _ _ _) (fun e => Eq.trans (by rw [← hw49]; exact e_up_ne _ _ (Or.inr (by omega))) (j22 j g1 (by omega)))), (e_fr.up j23 hw49 (by unfold mGo; omega))⟩ (by omega))
                        exact ⟨rfl, rfl, rfl, rfl, rfl, trivial⟩
                  refine e_Ok.sub eAlk (e_sub_of rfl ?_) (hL17 (7 + 1 : Int).toNat 0 w ⟨(e_fr.refl w), hT, by omega, (fun j g1 g2 => by omega), (e_fr.refl w)⟩ (by omega))
                  exact ⟨rfl, rfl, rfl, rfl, rfl, trivial⟩
                · replace h16 : (0 : Int) ≠ 0 := by have q : ¬ ((0 : Int) = 0) := h16; omega
                  exfalso; omega
              · replace h15 : (w 276 1 : Int) = 0 := by have q : ¬ ((w 276 1 : Int) ≠ 0) := h15; omega
                refine e_Ok.run (t' := (141, [(5, (0, 5)), (4, (0, 36 * a + 16)), (0, (1, 275)), (1, (0, w 329 (10000 * a + p))), (2, (0, p)), (3, (0, y3))], [(0, 5)], w)) 4 rfl ?_
                refine e_Ok.if1 rfl (fun h52 => ?_) (fun h52 => ?_)
                · replace h52 : (5 : Int) = 0 := h52
                  exfalso; omega
                · replace h52 : (5 : Int) ≠ 0 := by have q : ¬ ((5 : Int) = 0) := h52; omega
                  refine e_Ok.run (t' := (147, [(5, (0, 5)), (4, (0, 36 * a + 16)), (0, (1, 275)), (1, (0, w 329 (10000 * a + p))), (2, (0, p)), (3, (0, y3))], [(0, 5), (1, 275)], w)) 2 rfl ?_
                  refine e_Ok.callV rfl (by omega) rfl rfl rfl rfl (c_369 (by omega) hT (by omega) (by omega) h96 h97 h98 hC hP (by omega) (by omega)) (fun r53 w54 h55 => ?_)
                  obtain ⟨rfl, ⟨q56, q56S⟩, q56T, q56n, q56d, q56c⟩ := h55
                  have f57 : e_fr (mMv t a) w w54 := e_fr.trans (e_fr.refl w) (e_fr.mono q56 (fun c k q => by exact Or.inl q))
                  show e_Ok 20 elay ecode eI (d + 1) 380 (150, [(5, (0, 5)), (4, (0, 36 * a + 16)), (0, (1, 275)), (1, (0, w 329 (10000 * a + p))), (2, (0, p)), (3, (0, y3))], [], w54) _
                  refine e_Ok.rets rfl rfl ?_
                  exact ⟨rfl, f57, q56T, by omega, mMo.rel hMo (e_Has.mo hT) hCf (sRel.trans sRel.refl q56S) (fun c k q => q56 c k (moK_lv ht q)), Or.inl ⟨q56d, q56c⟩⟩
            · replace h13 : (w 276 (36 * a + 16) : Int) ≠ 0 := by have q : ¬ ((w 276 (36 * a + 16) : Int) = 0) := h13; omega
              refine e_Ok.run (t' := (141, [(5, (0, 4)), (4, (0, 36 * a + 16)), (0, (1, 275)), (1, (0, w 329 (10000 * a + p))), (2, (0, p)), (3, (0, y3))], [(0, 4)], w)) 4 rfl ?_
              refine e_Ok.if1 rfl (fun h58 => ?_) (fun h58 => ?_)
              · replace h58 : (4 : Int) = 0 := h58
                exfalso; omega
              · replace h58 : (4 : Int) ≠ 0 := by have q : ¬ ((4 : Int) = 0) := h58; omega
                refine e_Ok.run (t' := (147, [(5, (0, 4)), (4, (0, 36 * a + 16)), (0, (1, 275)), (1, (0, w 329 (10000 * a + p))), (2, (0, p)), (3, (0, y3))], [(0, 4), (1, 275)], w)) 2 rfl ?_
                refine e_Ok.callV rfl (by omega) rfl rfl rfl rfl (c_369 (by omega) hT (by omega) (by omega) h96 h97 h98 hC hP (by omega) (by omega)) (fun r59 w60 h61 => ?_)
                obtain ⟨rfl, ⟨q62, q62S⟩, q62T, q62n, q62d, q62c⟩ := h61
                have f63 : e_fr (mMv t a) w w60 := e_fr.trans (e_fr.refl w) (e_fr.mono q62 (fun c k q => by exact Or.inl q))
                show e_Ok 20 elay ecode eI (d + 1) 380 (150, [(5, (0, 4)), (4, (0, 36 * a + 16)), (0, (1, 275)), (1, (0, w 329 (10000 * a + p))), (2, (0, p)), (3, (0, y3))], [], w60) _
                refine e_Ok.rets rfl rfl ?_
                exact ⟨rfl, f63, q62T, by omega, mMo.rel hMo (e_Has.mo hT) hCf (sRel.trans sRel.refl q62S) (fun c k q => q62 c k (moK_lv ht q)), Or.inl ⟨q62d, q62c⟩⟩
          · replace h11 : (y3 : Int) = 0 := by have q : ¬ ((y3 : Int) ≠ 0) := h11; omega
            refine e_Ok.run (t' := (141, [(5, (0, 3)), (4, (0, 36 * a + 16)), (0, (1, 275)), (1, (0, w 329 (10000 * a + p))), (2, (0, p)), (3, (0, y3))], [(0, 3)], w)) 4 rfl ?_
            refine e_Ok.if1 rfl (fun h64 => ?_) (fun h64 => ?_)
            · replace h64 : (3 : Int) = 0 := h64
              exfalso; omega
            · replace h64 : (3 : Int) ≠ 0 := by have q : ¬ ((3 : Int) = 0) := h64; omega
              refine e_Ok.run (t' := (147, [(5, (0, 3)), (4, (0, 36 * a + 16)), (0, (1, 275)), (1, (0, w 329 (10000 * a + p))), (2, (0, p)), (3, (0, y3))], [(0, 3), (1, 275)], w)) 2 rfl ?_
              refine e_Ok.callV rfl (by omega) rfl rfl rfl rfl (c_369 (by omega) hT (by omega) (by omega) h96 h97 h98 hC hP (by omega) (by omega)) (fun r65 w66 h67 => ?_)
              obtain ⟨rfl, ⟨q68, q68S⟩, q68T, q68n, q68d, q68c⟩ := h67
              have f69 : e_fr (mMv t a) w w66 := e_fr.trans (e_fr.refl w) (e_fr.mono q68 (fun c k q => by exact Or.inl q))
              show e_Ok 20 elay ecode eI (d + 1) 380 (150, [(5, (0, 3)), (4, (0, 36 * a + 16)), (0, (1, 275)), (1, (0, w 329 (10000 * a + p))), (2, (0, p)), (3, (0, y3))], [], w66) _
              refine e_Ok.rets rfl rfl ?_
              exact ⟨rfl, f69, q68T, by omega, mMo.rel hMo (e_Has.mo hT) hCf (sRel.trans sRel.refl q68S) (fun c k q => q68 c k (moK_lv ht q)), Or.inl ⟨q68d, q68c⟩⟩
        · replace h7 : (y4 : Int) < w 286 a := by have q : ¬ ((y4 : Int) ≥ w 286 a) := h7; omega
          refine e_Ok.run (t' := (37, [(0, (1, 275)), (1, (0, w 329 (10000 * a + p))), (2, (0, p)), (3, (0, y3)), (4, (0, y4))], [(0, y3)], w)) 1 rfl ?_
          refine e_Ok.if1 rfl (fun h70 => ?_) (fun h70 => ?_)
          · replace h70 : (y3 : Int) = 0 := h70
            refine e_Ok.run (t' := (91, [(0, (1, 275)), (1, (0, w 329 (10000 * a + p))), (2, (0, p)), (3, (0, y3)), (4, (0, y4))], [(1, 275)], w)) 1 rfl ?_
            refine e_Ok.getf (z := a) rfl rfl rfl rfl h98 (by omega) ?_
            refine e_Ok.callS rfl (by omega) rfl rfl (c_268 (by omega)) (fun r71 w72 h73 => ?_)
            obtain ⟨rfl, rfl⟩ := h73
            show e_Ok 20 elay ecode eI (d + 1) 380 (97, [(0, (1, 275)), (1, (0, w 329 (10000 * a + p))), (2, (0, p)), (3, (0, y3)), (4, (0, y4))], [(0, 36 * a + 16)], w) _
            refine e_Ok.run (t' := (100, [(4, (0, 36 * a + 16)), (0, (1, 275)), (1, (0, w 329 (10000 * a + p))), (2, (0, p)), (3, (0, y3))], [(0, y3)], w)) 2 rfl ?_
            refine e_Ok.if1 rfl (fun h74 => ?_) (fun h74 => ?_)
            · replace h74 : (y3 : Int) ≠ 0 := h74
              exfalso; omega
            · replace h74 : (y3 : Int) = 0 := by have q : ¬ ((y3 : Int) ≠ 0) := h74; omega
              refine e_Ok.run (t' := (141, [(5, (0, 3)), (4, (0, 36 * a + 16)), (0, (1, 275)), (1, (0, w 329 (10000 * a + p))), (2, (0, p)), (3, (0, y3))], [(0, 3)], w)) 4 rfl ?_
              refine e_Ok.if1 rfl (fun h75 => ?_) (fun h75 => ?_)
              · replace h75 : (3 : Int) = 0 := h75
                exfalso; omega
              · replace h75 : (3 : Int) ≠ 0 := by have q : ¬ ((3 : Int) = 0) := h75; omega
                refine e_Ok.run (t' := (147, [(5, (0, 3)), (4, (0, 36 * a + 16)), (0, (1, 275)), (1, (0, w 329 (10000 * a + p))), (2, (0, p)), (3, (0, y3))], [(0, 3), (1, 275)], w)) 2 rfl ?_
                refine e_Ok.callV rfl (by omega) rfl rfl rfl rfl (c_369 (by omega) hT (by omega) (by omega) h96 h97 h98 hC hP (by omega) (by omega)) (fun r76 w77 h78 => ?_)
                obtain ⟨rfl, ⟨q79, q79S⟩, q79T, q79n, q79d, q79c⟩ := h78
                have f80 : e_fr (mMv t a) w w77 := e_fr.trans (e_fr.refl w) (e_fr.mono q79 (fun c k q => by exact Or.inl q))
                show e_Ok 20 elay ecode eI (d + 1) 380 (150, [(5, (0, 3)), (4, (0, 36 * a + 16)), (0, (1, 275)), (1, (0, w 329 (10000 * a + p))), (2, (0, p)), (3, (0, y3))], [], w77) _
                refine e_Ok.rets rfl rfl ?_
                exact ⟨rfl, f80, q79T, by omega, mMo.rel hMo (e_Has.mo hT) hCf (sRel.trans sRel.refl q79S) (fun c k q => q79 c k (moK_lv ht q)), Or.inl ⟨q79d, q79c⟩⟩
          · replace h70 : (y3 : Int) ≠ 0 := by have q : ¬ ((y3 : Int) = 0) := h70; omega
            have hfi := j6 (by omega)
            refine e_Ok.run (t' := (41, [(0, (1, 275)), (1, (0, w 329 (10000 * a + p))), (2, (0, p)), (3, (0, y3)), (4, (0, y4))], [(1, 275)], w)) 1 rfl ?_
            refine e_Ok.getr (z := 345) rfl rfl rfl rfl (e_Has.eq hT rfl) (by omega) ?_
            refine e_Ok.run (t' := (46, [(0, (1, 275)), (1, (0, w 329 (10000 * a + p))), (2, (0, p)), (3, (0, y3)), (4, (0, y4))], [(0, y4), (1, 345)], w)) 1 rfl ?_
            have h81 := (hst y4 (by omega) (by omega))
            refine e_Ok.ald (z := w 345 y4) rfl rfl rfl (by omega) rfl (by omega) ?_
            refine e_Ok.run (t' := (49, [(0, (1, 275)), (1, (0, w 329 (10000 * a + p))), (2, (0, p)), (3, (0, y3)), (4, (0, y4))], [(1, 275), (4, w 345 y4)], w)) 2 rfl ?_
            refine e_Ok.getr (z := 288) rfl rfl rfl rfl (e_Has.eq hT rfl) (by omega) ?_
            refine e_Ok.run (t' := (55, [(0, (1, 275)), (1, (0, w 329 (10000 * a + p))), (2, (0, p)), (3, (0, y3)), (4, (0, y4))], [(1, 275), (0, 6), (1, 288), (4, w 345 y4)], w)) 2 rfl ?_
            refine e_Ok.getf (z := a) rfl rfl rfl rfl h98 (by omega) ?_
            refine e_Ok.mul (z := 6 * a) rfl (by omega) (by omega) ?_
            refine e_Ok.run (t' := (61, [(0, (1, 275)), (1, (0, w 329 (10000 * a + p))), (2, (0, p)), (3, (0, y3)), (4, (0, y4))], [(0, y4), (0, 6 * a), (1, 288), (4, w 345 y4)], w)) 1 rfl ?_
            refine e_Ok.add (z := 6 * a + y4) rfl (by omega) (by omega) ?_
            have h82 := (e_Has.get hT (c := 288) (k := 6 * a + y4) (lo := (-100000)) (hi := 0) rfl (by decide))
            refine e_Ok.ald (z := w 288 (6 * a + y4)) rfl rfl rfl (by omega) rfl (by omega) ?_
            refine e_Ok.run (t' := (65, [(0, (1, 275)), (1, (0, w 329 (10000 * a + p))), (2, (0, p)), (3, (0, y3)), (4, (0, y4))], [(1, 275), (4, w 288 (6 * a + y4)), (4, w 345 y4)], w)) 2 rfl ?_
            refine e_Ok.getr (z := 289) rfl rfl rfl rfl (e_Has.eq hT rfl) (by omega) ?_
            refine e_Ok.run (t' := (71, [(0, (1, 275)), (1, (0, w 329 (10000 * a + p))), (2, (0, p)), (3, (0, y3)), (4, (0, y4))], [(1, 275), (0, 6), (1, 289), (4, w 288 (6 * a + y4)), (4, w 345 y4)], w)) 2 rfl ?_
            refine e_Ok.getf (z := a) rfl rfl rfl rfl h98 (by omega) ?_
            refine e_Ok.mul (z := 6 * a) rfl (by omega) (by omega) ?_
            refine e_Ok.run (t' := (77, [(0, (1, 275)), (1, (0, w 329 (10000 * a + p))), (2, (0, p)), (3, (0, y3)), (4, (0, y4))], [(0, y4), (0, 6 * a), (1, 289), (4, w 288 (6 * a + y4)), (4, w 345 y4)], w)) 1 rfl ?_
            refine e_Ok.add (z := 6 * a + y4) rfl (by omega) (by omega) ?_
            have h83 := (e_Has.get hT (c := 289) (k := 6 * a + y4) (lo := 0) (hi := 100000) rfl (by decide))
            refine e_Ok.ald (z := w 289 (6 * a + y4)) rfl rfl rfl (by omega) rfl (by omega) ?_
            refine e_Ok.run (t' := (80, [(0, (1, 275)), (1, (0, w 329 (10000 * a + p))), (2, (0, p)), (3, (0, y3)), (4, (0, y4))], [(4, w 289 (6 * a + y4)), (4, w 288 (6 * a + y4)), (4, w 345 y4)], w)) 1 rfl ?_
            refine e_Ok.callS rfl (by omega) rfl rfl (c_266) (fun r84 w85 h86 => ?_)
            obtain ⟨z87, rfl, rfl, q88⟩ := h86
            obtain ⟨rfl, q88⟩ | ⟨rfl, q88⟩ := q88
            · show e_Ok 20 elay ecode eI (d + 1) 380 (83, [(0, (1, 275)), (1, (0, w 329 (10000 * a + p))), (2, (0, p)), (3, (0, y3)), (4, (0, y4))], [(0, 1)], w) _
              refine e_Ok.run (t' := (84, [(3, (0, 1)), (0, (1, 275)), (1, (0, w 329 (10000 * a + p))), (2, (0, p)), (4, (0, y4))], [], w)) 1 rfl ?_
              refine e_Ok.inc (z := y4 + 1) rfl rfl (by omega) (by omega) ?_
              show e_Ok 20 elay ecode eI (d + 1) 380 (87, [(4, (0, y4 + 1)), (3, (0, 1)), (0, (1, 275)), (1, (0, w 329 (10000 * a + p))), (2, (0, p))], [], w) _
              refine e_Ok.run (t' := (22, [(4, (0, y4 + 1)), (3, (0, 1)), (0, (1, 275)), (1, (0, w 329 (10000 * a + p))), (2, (0, p))], [], w)) 1 rfl ?_
              refine e_Ok.sub eAlk (e_sub_of rfl ?_) (ih3 1 (y4 + 1) ⟨by omega, by omega, (fun _ => ⟨hfi.1, fun j g1 g2 => Decidable.byCases (p := j = y4) (fun e => by rw [e]; omega) (fun e => hfi.2 j g1 (by omega))⟩)⟩ (by omega))
              exact ⟨rfl, rfl, rfl, rfl, rfl, trivial⟩
            · show e_Ok 20 elay ecode eI (d + 1) 380 (83, [(0, (1, 275)), (1, (0, w 329 (10000 * a + p))), (2, (0, p)), (3, (0, y3)), (4, (0, y4))], [(0, 0)], w) _
              refine e_Ok.run (t' := (84, [(3, (0, 0)), (0, (1, 275)), (1, (0, w 329 (10000 * a + p))), (2, (0, p)), (4, (0, y4))], [], w)) 1 rfl ?_
              refine e_Ok.inc (z := y4 + 1) rfl rfl (by omega) (by omega) ?_
              show e_Ok 20 elay ecode eI (d + 1) 380 (87, [(4, (0, y4 + 1)), (3, (0, 0)), (0, (1, 275)), (1, (0, w 329 (10000 * a + p))), (2, (0, p))], [], w) _
              refine e_Ok.run (t' := (22, [(4, (0, y4 + 1)), (3, (0, 0)), (0, (1, 275)), (1, (0, w 329 (10000 * a + p))), (2, (0, p))], [], w)) 1 rfl ?_
              refine e_Ok.sub eAlk (e_sub_of rfl ?_) (ih3 0 (y4 + 1) ⟨by omega, by omega, (fun e => by omega)⟩ (by omega))
              exact ⟨rfl, rfl, rfl, rfl, rfl, trivial⟩
    refine e_Ok.sub eAlk (e_sub_of rfl ?_) (hL2 (7 + 1 : Int).toNat 0 0 ⟨by omega, by omega, (fun e => ⟨by omega, fun j g1 g2 => by omega⟩)⟩ (by omega))
    exact ⟨rfl, rfl, rfl, rfl, rfl, trivial⟩
  · replace h1 : (w 329 (10000 * a + p) : Int) = w 286 a := by have q : ¬ ((w 329 (10000 * a + p) : Int) ≠ w 286 a) := h1; omega
    refine e_Ok.run (t' := (22, [(4, (0, 0)), (3, (0, 1)), (0, (1, 275)), (1, (0, w 329 (10000 * a + p))), (2, (0, p))], [], w)) 5 rfl ?_
    have hL89 : ∀ (nn : Nat) (y3 : Int) (y4 : Int), (0 ≤ y3 ∧ y3 ≤ 1) ∧ (0 ≤ y4 ∧ y4 ≤ 6) ∧ ((y3 = 1 → w 329 (10000 * a + p) = w 286 a ∧ ∀ j, 0 ≤ j → j < y4 → w 288 (6 * a + j) ≤ w 345 j ∧ w 345 j ≤ w 289 (6 * a + j))) → 7 - y4 < nn → e_Ok 20 elay ecode eI (d + 1) 380 (22, [(0, (1, 275)), (1, (0, w 329 (10000 * a + p))), (2, (0, p)), (3, (0, y3)), (4, (0, y4))], [], w) (fun r' w' => r' = [] ∧ e_fr (mMv t a) w w' ∧ e_Has mTy w' ∧ (w 276 5 ≤ w' 276 5 ∧ w' 276 5 ≤ w 276 5 + 2) ∧ mMo w' (-1) ∧ ((w' 275 102 = 0 ∧ ((w' 275 100 = 1 ∧ (w' 276 (1260 * t + 416) = 6 ∨ w' 276 (1260 * t + 416) = 7)) ∨ (w' 275 100 = w 275 100 ∧ w' 276 (1260 * t + 416) = w 276 (1260 * t + 416) ∧ w' 276 5 = w 276 5 ∧ ∃ (g' p' : Int) (bs' ow' : Int → Int), g' ≤ g ∧ (g' = g → p < p') ∧ topOk w' a t g' p' n nt nw dl sg pi an br bs' ow' ∧ dl p' = 0 ∧ sg p' = 0))) ∨ (w' 275 100 = 1 ∧ w' 276 (1260 * t + 416) = 2 ∧ topOk w' a t g (p + 1) n nt nw dl sg pi an br bs ow ∧ dl (p + 1) = 0))) := by
      intro nn
      induction nn with
      | zero => intro y3 y4 hj hm; obtain ⟨j91, j92, j93⟩ := hj; exfalso; omega
      | succ nn ih90 =>
        intro y3 y4 hj hm
        obtain ⟨j91, j92, j93⟩ := hj
        refine e_Ok.run (t' := (25, [(0, (1, 275)), (1, (0, w 329 (10000 * a + p))), (2, (0, p)), (3, (0, y3)), (4, (0, y4))], [(1, 275), (0, y4)], w)) 2 rfl ?_
        refine e_Ok.getr (z := 286) rfl rfl rfl rfl (e_Has.eq hT rfl) (by omega) ?_
        refine e_Ok.run (t' := (29, [(0, (1, 275)), (1, (0, w 329 (10000 * a + p))), (2, (0, p)), (3, (0, y3)), (4, (0, y4))], [(1, 275), (1, 286), (0, y4)], w)) 1 rfl ?_
        refine e_Ok.getf (z := a) rfl rfl rfl rfl h98 (by omega) ?_
        refine e_Ok.ald (z := w 286 a) rfl rfl rfl (by omega) rfl (by omega) ?_
        refine e_Ok.if2 rfl (fun h94 => ?_) (fun h94 => ?_)
        · replace h94 : (y4 : Int) ≥ w 286 a := h94
          refine e_Ok.run (t' := (91, [(0, (1, 275)), (1, (0, w 329 (10000 * a + p))), (2, (0, p)), (3, (0, y3)), (4, (0, y4))], [(1, 275)], w)) 1 rfl ?_
          refine e_Ok.getf (z := a) rfl rfl rfl rfl h98 (by omega) ?_
          refine e_Ok.callS rfl (by omega) rfl rfl (c_268 (by omega)) (fun r95 w96 h97 => ?_)
          obtain ⟨rfl, rfl⟩ := h97
          show e_Ok 20 elay ecode eI (d + 1) 380 (97, [(0, (1, 275)), (1, (0, w 329 (10000 * a + p))), (2, (0, p)), (3, (0, y3)), (4, (0, y4))], [(0, 36 * a + 16)], w) _
          refine e_Ok.run (t' := (100, [(4, (0, 36 * a + 16)), (0, (1, 275)), (1, (0, w 329 (10000 * a + p))), (2, (0, p)), (3, (0, y3))], [(0, y3)], w)) 2 rfl ?_
          refine e_Ok.if1 rfl (fun h98 => ?_) (fun h98 => ?_)
          · replace h98 : (y3 : Int) ≠ 0 := h98
            refine e_Ok.run (t' := (108, [(4, (0, 36 * a + 16)), (0, (1, 275)), (1, (0, w 329 (10000 * a + p))), (2, (0, p)), (3, (0, y3))], [(1, 275)], w)) 1 rfl ?_
            refine e_Ok.getr (z := 276) rfl rfl rfl rfl (e_Has.eq hT rfl) (by omega) ?_
            refine e_Ok.run (t' := (114, [(4, (0, 36 * a + 16)), (0, (1, 275)), (1, (0, w 329 (10000 * a + p))), (2, (0, p)), (3, (0, y3))], [(0, 0), (0, 36 * a + 16), (1, 276)], w)) 2 rfl ?_
            refine e_Ok.add (z := 36 * a + 16) rfl (by omega) (by omega) ?_
            have h99 := (e_Has.get hT (c := 276) (k := 36 * a + 16) (lo := 0) (hi := 2) (nR_STATE (a := a) (by omega)) (by decide))
            refine e_Ok.ald (z := w 276 (36 * a + 16)) rfl rfl rfl (by omega) rfl (by omega) ?_
            refine e_Ok.if1 rfl (fun h100 => ?_) (fun h100 => ?_)
            · replace h100 : (w 276 (36 * a + 16) : Int) = 0 := h100
              refine e_Ok.run (t' := (124, [(4, (0, 36 * a + 16)), (0, (1, 275)), (1, (0, w 329 (10000 * a + p))), (2, (0, p)), (3, (0, y3))], [(1, 275)], w)) 1 rfl ?_
              refine e_Ok.getr (z := 276) rfl rfl rfl rfl (e_Has.eq hT rfl) (by omega) ?_
              refine e_Ok.run (t' := (128, [(4, (0, 36 * a + 16)), (0, (1, 275)), (1, (0, w 329 (10000 * a + p))), (2, (0, p)), (3, (0, y3))], [(0, 1), (1, 276)], w)) 1 rfl ?_
              have h101 := (e_Has.get hT (c := 276) (k := 1) (lo := 0) (hi := 1) rfl (by decide))
              refine e_Ok.ald (z := w 276 1) rfl rfl rfl (by omega) rfl (by omega) ?_
              refine e_Ok.if1 rfl (fun h102 => ?_) (fun h102 => ?_)
              · replace h102 : (w 276 1 : Int) ≠ 0 := h102
                refine e_Ok.run (t' := (141, [(5, (0, 0)), (4, (0, 36 * a + 16)), (0, (1, 275)), (1, (0, w 329 (10000 * a + p))), (2, (0, p)), (3, (0, y3))], [(0, 0)], w)) 3 rfl ?_
                refine e_Ok.if1 rfl (fun h103 => ?_) (fun h103 => ?_)
                · replace h103 : (0 : Int) = 0 := h103
                  have hfit := j93 (by omega)
                  refine e_Ok.run (t' := (154, [(6, (0, 0)), (5, (0, 0)), (4, (0, 36 * a + 16)), (0, (1, 275)), (1, (0, w 329 (10000 * a + p))), (2, (0, p)), (3, (0, y3))], [], w)) 2 rfl ?_
                  have hL104 : ∀ (nn : Nat) (y6 : Int) (v2 : eW), e_fr (mMv t a) w v2 ∧ e_Has mTy v2 ∧ (0 ≤ y6 ∧ y6 ≤ 6) ∧ (∀ j, 0 ≤ j → j < y6 → v2 276 (36 * a + j + 44) = w 345 j) ∧ e_fr (mGo a) w v2 → 7 - y6 < nn → e_Ok 20 elay ecode eI (d + 1) 380 (154, [(0, (1, 275)), (1, (0, w 329 (10000 * a + p))), (2, (0, p)), (4, (0, 36 * a + 16)), (6, (0, y6))], [], v2) (fun r' w' => r' = [] ∧ e_fr (mMv t a) w w' ∧ e_Has mTy w' ∧ (w 276 5 ≤ w' 276 5 ∧ w' 276 5 ≤ w 276 5 + 2) ∧ mMo w' (-1) ∧ ((w' 275 102 = 0 ∧ ((w' 275 100 = 1 ∧ (w' 276 (1260 * t + 416) = 6 ∨ w' 276 (1260 * t + 416) = 7)) ∨ (w' 275 100 = w 275 100 ∧ w' 276 (1260 * t + 416) = w 276 (1260 * t + 416) ∧ w' 276 5 = w 276 5 ∧ ∃ (g' p' : Int) (bs' ow' : Int → Int), g' ≤ g ∧ (g' = g → p < p') ∧ topOk w' a t g' p' n nt nw dl sg pi an br bs' ow' ∧ dl p' = 0 ∧ sg p' = 0))) ∨ (w' 275 100 = 1 ∧ w' 276 (1260 * t + 416) = 2 ∧ topOk w' a t g (p + 1) n nt nw dl sg pi an br bs ow ∧ dl (p + 1) = 0))) := by
                    intro nn
                    induction nn with
                    | zero => intro y6 v2 hj hm; obtain ⟨j106, j107, j108, j109, j110⟩ := hj; exfalso; omega
                    | succ nn ih105 =>
                      intro y6 v2 hj hm
                      obtain ⟨j106, j107, j108, j109, j110⟩ := hj
                      refine e_Ok.run (t' := (157, [(0, (1, 275)), (1, (0, w 329 (10000 * a + p))), (2, (0, p)), (4, (0, 36 * a + 16)), (6, (0, y6))], [(0, w 329 (10000 * a + p)), (0, y6)], v2)) 2 rfl ?_
                      refine e_Ok.if2 rfl (fun h111 => ?_) (fun h111 => ?_)
                      · replace h111 : (y6 : Int) ≥ w 329 (10000 * a + p) := h111
                        refine e_Ok.run (t' := (188, [(0, (1, 275)), (1, (0, w 329 (10000 * a + p))), (2, (0, p)), (4, (0, 36 * a + 16)), (6, (0, y6))], [(1, 275), (1, 275)], v2)) 2 rfl ?_
                        refine e_Ok.getf (z := a) rfl rfl rfl rfl ((j110 275 98 (by unfold mGo; omega)).trans h98) (by omega) ?_
                        refine e_Ok.callV rfl (by omega) rfl rfl rfl rfl (c_381 (by omega) j107 (mCf.fr hCf (fun c k q => ((j110 c k (by unfold mGo; omega)).trans rfl))) (by omega)) (fun r112 w113 h114 => ?_)
                        obtain ⟨rfl, q115, q115T, q115s⟩ := h114
                        have f116 : e_fr (mMv t a) w w113 := e_fr.trans j106 (e_fr.mono q115 (fun c k q => by unfold mBe at q; unfold mMv mLv; omega))
                        show e_Ok 20 elay ecode eI (d + 1) 380 (194, [(0, (1, 275)), (1, (0, w 329 (10000 * a + p))), (2, (0, p)), (4, (0, 36 * a + 16)), (6, (0, y6))], [], w113) _
                        refine e_Ok.run (t' := (195, [(0, (1, 275)), (1, (0, w 329 (10000 * a + p))), (2, (0, p)), (4, (0, 36 * a + 16)), (6, (0, y6))], [(1, 275)], w113)) 1 rfl ?_
                        refine e_Ok.getr (z := 276) rfl rfl rfl rfl ((q115 275 0 (by unfold mBe; omega)).trans ((j110 275 0 (by unfold mGo; omega)).trans (e_Has.eq hT rfl))) (by omega) ?_
                        refine e_Ok.run (t' := (202, [(0, (1, 275)), (1, (0, w 329 (10000 * a + p))), (2, (0, p)), (4, (0, 36 * a + 16)), (6, (0, y6))], [(0, 9), (0, 36 * a + 16), (1, 276)], w113)) 2 rfl ?_
                        refine e_Ok.add (z := 36 * a + 25) rfl (by omega) (by omega) ?_
                        refine e_Ok.run (t' := (204, [(0, (1, 275)), (1, (0, w 329 (10000 * a + p))), (2, (0, p)), (4, (0, 36 * a + 16)), (6, (0, y6))], [(1, 275), (0, 36 * a + 25), (1, 276)], w113)) 1 rfl ?_
                        refine e_Ok.getf (z := t) rfl rfl rfl rfl ((q115 275 96 (by unfold mBe; omega)).trans ((j110 275 96 (by unfold mGo; omega)).trans h96)) (by omega) ?_
                        refine e_Ok.ast rfl rfl rfl rfl (by omega) ?_
                        generalize hw117 : e_up w113 276 (36 * a + 25) t = w117
                        have f118 : e_fr (mMv t a) w w117 := e_fr.up f116 hw117 (by unfold mMv mLv; omega)
                        have hT119 : e_Has mTy w117 := e_Has.upr q115T hw117 (nR_MOVER (a := a) (by omega)) (by omega)
                        refine e_Ok.run (t' := (209, [(0, (1, 275)), (1, (0, w 329 (10000 * a + p))), (2, (0, p)), (4, (0, 36 * a + 16)), (6, (0, y6))], [(1, 275)], w117)) 1 rfl ?_
                        refine e_Ok.getr (z := 276) rfl rfl rfl rfl (by rw [← hw117]; exact (e_up_ne _ _ (Or.inl (by omega))).trans ((q115 275 0 (by unfold mBe; omega)).trans ((j110 275 0 (by unfold mGo; omega)).trans (e_Has.eq hT rfl)))) (by omega) ?_
                        refine e_Ok.run (t' := (213, [(0, (1, 275)), (1, (0, w 329 (10000 * a + p))), (2, (0, p)), (4, (0, 36 * a + 16)), (6, (0, y6))], [(1, 275), (1, 276)], w117)) 1 rfl ?_
                        refine e_Ok.getf (z := 1260 * t + 416) rfl rfl rfl rfl (by rw [← hw117]; exact (e_up_ne _ _ (Or.inl (by omega))).trans ((q115 275 97 (by unfold mBe; omega)).trans ((j110 275 97 (by unfold mGo; omega)).trans h97))) (by omega) ?_
                        refine e_Ok.run (t' := (217, [(0, (1, 275)), (1, (0, w 329 (10000 * a + p))), (2, (0, p)), (4, (0, 36 * a + 16)), (6, (0, y6))], [(0, 2), (0, 1260 * t + 416), (1, 276)], w117)) 1 rfl ?_
                        refine e_Ok.ast rfl rfl rfl rfl (by omega) ?_
                        generalize hw120 : e_up w117 276 (1260 * t + 416) 2 = w120
                        have f121 : e_fr (mMv t a) w w120 := e_fr.up f118 hw120 (by unfold mMv mLv; omega)
                        have hT122 : e_Has mTy w120 := e_Has.upr hT119 hw120 (nR_TSTATE (t := t) (by omega)) (by omega)
                        refine e_Ok.run (t' := (219, [(0, (1, 275)), (1, (0, w 329 (10000 * a + p))), (2, (0, p)), (4, (0, 36 * a + 16)), (6, (0, y6))], [(1, 275)], w120)) 1 rfl ?_
                        refine e_Ok.getr (z := 276) rfl rfl rfl rfl (by rw [← hw120]; exact (e_up_ne _ _ (Or.inl (by omega))).trans (by rw [← hw117]; exact (e_up_ne _ _ (Or.inl (by omega))).trans ((q115 275 0 (by unfold mBe; omega)).trans ((j110 275 0 (by unfold mGo; omega)).trans (e_Has.eq hT rfl))))) (by omega) ?_
                        refine e_Ok.run (t' := (223, [(0, (1, 275)), (1, (0, w 329 (10000 * a + p))), (2, (0, p)), (4, (0, 36 * a + 16)), (6, (0, y6))], [(1, 275), (1, 276)], w120)) 1 rfl ?_
                        refine e_Ok.getf (z := 1260 * t + 416) rfl rfl rfl rfl (by rw [← hw120]; exact (e_up_ne _ _ (Or.inl (by omega))).trans (by rw [← hw117]; exact (e_up_ne _ _ (Or.inl (by omega))).trans ((q115 275 97 (by unfold mBe; omega)).trans ((j110 275 97 (by unfold mGo; omega)).trans h97)))) (by omega) ?_
                        refine e_Ok.run (t' := (228, [(0, (1, 275)), (1, (0, w 329 (10000 * a + p))), (2, (0, p)), (4, (0, 36 * a + 16)), (6, (0, y6))], [(0, 7), (0, 1260 * t + 416), (1, 276)], w120)) 1 rfl ?_
                        refine e_Ok.add (z := 1260 * t + 423) rfl (by omega) (by omega) ?_
                        refine e_Ok.run (t' := (230, [(0, (1, 275)), (1, (0, w 329 (10000 * a + p))), (2, (0, p)), (4, (0, 36 * a + 16)), (6, (0, y6))], [(0, 0), (0, 1260 * t + 423), (1, 276)], w120)) 1 rfl ?_
                        refine e_Ok.ast rfl rfl rfl rfl (by omega) ?_
                        generalize hw123 : e_up w120 276 (1260 * t + 423) 0 = w123
                        have f124 : e_fr (mMv t a) w w123 := e_fr.up f121 hw123 (by unfold mMv mLv; omega)
                        have hT125 : e_Has mTy w123 := e_Has.upr hT122 hw123 (nR_BROKEN (t := t) (by omega)) (by omega)
                        refine e_Ok.run (t' := (233, [(0, (1, 275)), (1, (0, w 329 (10000 * a + p))), (2, (0, p)), (4, (0, 36 * a + 16)), (6, (0, y6))], [(0, 1), (1, 275)], w123)) 2 rfl ?_
                        refine e_Ok.putb rfl rfl rfl rfl (by omega) ?_
                        generalize hw126 : e_up w123 275 100 1 = w126
                        have f127 : e_fr (mMv t a) w w126 := e_fr.up f124 hw126 (by unfold mMv mLv; omega)
                        have hT128 : e_Has mTy w126 := e_Has.ups hT125 hw126 rfl
                        refine e_Ok.run (t' := (239, [(0, (1, 275)), (1, (0, w 329 (10000 * a + p))), (2, (0, p)), (4, (0, 36 * a + 16)), (6, (0, y6))], [(0, 1), (0, p), (1, 275)], w126)) 3 rfl ?_
                        refine e_Ok.add (z := p + 1) rfl (by omega) (by omega) ?_
                        refine e_Ok.callV rfl (by omega) rfl rfl rfl rfl (c_365 (by omega) hT128 (by omega) (by rw [← hw126]; exact (e_up_ne _ _ (Or.inr (by omega))).trans (by rw [← hw123]; exact (e_up_ne _ _ (Or.inl (by omega))).trans (by rw [← hw120]; exact (e_up_ne _ _ (Or.inl (by omega))).trans (by rw [← hw117]; exact (e_up_ne _ _ (Or.inl (by omega))).trans ((q115 275 97 (by unfold mBe; omega)).trans ((j110 275 97 (by unfold mGo; omega)).trans h97)))))) (f := g + 1) (z := 1260 * t + 2 * g + 436) (by rw [← hw126]; exact (e_up_ne _ _ (Or.inl (by omega))).trans (by rw [← hw123]; exact (e_up_ne _ _ (Or.inr (by omega))).trans (by rw [← hw120]; exact (e_up_ne _ _ (Or.inr (by omega))).trans (by rw [← hw117]; exact (e_up_ne _ _ (Or.inr (by omega))).trans ((q115 276 (1260 * t + 428) (by unfold mBe; omega)).trans ((j110 276 (1260 * t + 428) (by unfold mGo; omega)).trans hF)))))) (by omega) (by omega)) (fun r129 w130 h131 => ?_)
                        obtain ⟨rfl, hw130⟩ := h131
                        have f132 : e_fr (mMv t a) w w130 := e_fr.up f127 hw130 (by unfold mMv mLv; omega)
                        have hT133 : e_Has mTy w130 := e_Has.upr hT128 hw130 (nR_FRg t (g) (by omega) (by omega) (by omega)) (by omega)
                        show e_Ok 20 elay ecode eI (d + 1) 380 (243, [(0, (1, 275)), (1, (0, w 329 (10000 * a + p))), (2, (0, p)), (4, (0, 36 * a + 16)), (6, (0, y6))], [], w130) _
                        refine e_Ok.rets rfl rfl ?_
                        have e134 : w130 276 5 = w 276 5 := (by rw [← hw130]; exact (e_up_ne _ _ (Or.inr (by omega))).trans (by rw [← hw126]; exact (e_up_ne _ _ (Or.inl (by omega))).trans (by rw [← hw123]; exact (e_up_ne _ _ (Or.inr (by omega))).trans (by rw [← hw120]; exact (e_up_ne _ _ (Or.inr (by omega))).trans (by rw [← hw117]; exact (e_up_ne _ _ (Or.inr (by omega))).trans ((q115 276 5 (by unfold mBe; omega)).trans ((j110 276 5 (by unfold mGo; omega)).trans rfl)))))))
                        have hmo : mMo w130 (-1) := mMo.begin hMo (Or.inl rfl) (e_Has.mo hT) ha (by omega) (by omega) (fun c k q q2 => f132 c k (moK_mv ht ha q q2)) (fun b g1 g2 g3 => ⟨(by rw [← hw130]; exact (e_up_ne _ _ (Or.inr (by omega))).trans (by rw [← hw126]; exact (e_up_ne _ _ (Or.inl (by omega))).trans (by rw [← hw123]; exact (e_up_ne _ _ (Or.inr (by omega))).trans (by rw [← hw120]; exact (e_up_ne _ _ (Or.inr (by omega))).trans (by rw [← hw117]; exact (e_up_ne _ _ (Or.inr (by omega))).trans ((q115 276 (36 * b + 16) (by unfold mBe; omega)).trans ((j110 276 (36 * b + 16) (by unfold mGo; omega)).trans rfl))))))), (by rw [← hw130]; exact (e_up_ne _ _ (Or.inr (by omega))).trans (by rw [← hw126]; exact (e_up_ne _ _ (Or.inl (by omega))).trans (by rw [← hw123]; exact (e_up_ne _ _ (Or.inr (by omega))).trans (by rw [← hw120]; exact (e_up_ne _ _ (Or.inr (by omega))).trans (by rw [← hw117]; exact (e_up_ne _ _ (Or.inr (by omega))).trans ((q115 276 (36 * b + 22) (by unfold mBe; omega)).trans ((j110 276 (36 * b + 22) (by unfold mGo; omega)).trans rfl)))))))⟩) (by rw [← hw130]; exact (e_up_ne _ _ (Or.inr (by omega))).trans (by rw [← hw126]; exact (e_up_ne _ _ (Or.inl (by omega))).trans (by rw [← hw123]; exact (e_up_ne _ _ (Or.inr (by omega))).trans (by rw [← hw120]; exact (e_up_ne _ _ (Or.inr (by omega))).trans (by rw [← hw117]; exact (e_up_ne _ _ (Or.inr (by omega))).trans q115s))))) (fun j g1 g2 => by rw [show w130 276 (36 * a + j + 44) = w 345 j from Eq.trans (by rw [← hw130]; exact (e_up_ne _ _ (Or.inr (by omega))).trans (by rw [← hw126]; exact (e_up_ne _ _ (Or.inl (by omega))).trans (by rw [← hw123]; exact (e_up_ne _ _ (Or.inr (by omega))).trans (by rw [← hw120]; exact (e_up_ne _ _ (Or.inr (by omega))).trans (by rw [← hw117]; exact (e_up_ne _ _ (Or.inr (by omega))).trans ((q115 276 (36 * a + j + 44) (by unfold mBe; omega)).trans rfl)))))) (j109 j g1 (by omega))]; exact hfit.2 j g1 (by omega)) (fun e => by have e1 := ((hMo.2.1 a ha.1 ha.2).2 (Eq.trans (Eq.symm (by rw [← hw130]; exact (e_up_ne _ _ (Or.inr (by omega))).trans (by rw [← hw126]; exact (e_up_ne _ _ (Or.inl (by omega))).trans (by rw [← hw123]; exact (e_up_ne _ _ (Or.inr (by omega))).trans (by rw [← hw120]; exact (e_up_ne _ _ (Or.inr (by omega))).trans (by rw [← hw117]; exact (e_up_ne _ _ (Or.inr (by omega))).trans ((q115 276 (36 * a + 22) (by unfold mBe; omega)).trans ((j110 276 (36 * a + 22) (by unfold mGo; omega)).trans rfl)))))))) e)).1; exfalso; omega)
                        have hrn := runOk.fr (w' := w130) (fun c k q1 q2 => (by rw [← hw130]; exact (e_up_ne _ _ (Or.inl (by omega))).trans (by rw [← hw126]; exact (e_up_ne _ _ (Or.inl (by omega))).trans (by rw [← hw123]; exact (e_up_ne _ _ (Or.inl (by omega))).trans (by rw [← hw120]; exact (e_up_ne _ _ (Or.inl (by omega))).trans (by rw [← hw117]; exact (e_up_ne _ _ (Or.inl (by omega))).trans ((q115 c k (by unfold mBe; omega)).trans ((j110 c k (by unfold mGo; omega)).trans rfl)))))))) (fun i q1 q2 => ⟨(by rw [← hw130]; exact (e_up_ne _ _ (Or.inr (by omega))).trans (by rw [← hw126]; exact (e_up_ne _ _ (Or.inl (by omega))).trans (by rw [← hw123]; exact (e_up_ne _ _ (Or.inr (by omega))).trans (by rw [← hw120]; exact (e_up_ne _ _ (Or.inr (by omega))).trans (by rw [← hw117]; exact (e_up_ne _ _ (Or.inr (by omega))).trans ((q115 276 (1260 * t + 2 * i + 436) (by unfold mBe; omega)).trans ((j110 276 (1260 * t + 2 * i + 436) (by unfold mGo; omega)).trans rfl))))))), (by rw [← hw130]; exact (e_up_ne _ _ (Or.inr (by omega))).trans (by rw [← hw126]; exact (e_up_ne _ _ (Or.inl (by omega))).trans (by rw [← hw123]; exact (e_up_ne _ _ (Or.inr (by omega))).trans (by rw [← hw120]; exact (e_up_ne _ _ (Or.inr (by omega))).trans (by rw [← hw117]; exact (e_up_ne _ _ (Or.inr (by omega))).trans ((q115 276 (1260 * t + 2 * i + 439) (by unfold mBe; omega)).trans ((j110 276 (1260 * t + 2 * i + 439) (by unfold mGo; omega)).trans rfl)))))))⟩) (by rw [← hw130]; exact (e_up_ne _ _ (Or.inr (by omega))).trans (by rw [← hw126]; exact (e_up_ne _ _ (Or.inl (by omega))).trans (by rw [← hw123]; exact (e_up_ne _ _ (Or.inr (by omega))).trans (by rw [← hw120]; exact (e_up_ne _ _ (Or.inr (by omega))).trans (by rw [← hw117]; exact (e_up_ne _ _ (Or.inr (by omega))).trans ((q115 276 (1260 * t + 428) (by unfold mBe; omega)).trans ((j110 276 (1260 * t + 428) (by unfold mGo; omega)).trans rfl))))))) (by rw [← hw130]; exact (e_up_ne _ _ (Or.inr (by omega))).trans (by rw [← hw126]; exact (e_up_ne _ _ (Or.inl (by omega))).trans (by rw [← hw123]; exact (e_up_ne _ _ (Or.inr (by omega))).trans (by rw [← hw120]; exact (e_up_ne _ _ (Or.inr (by omega))).trans (by rw [← hw117]; exact (e_up_ne _ _ (Or.inr (by omega))).trans ((q115 276 (1260 * t + 429) (by unfold mBe; omega)).trans ((j110 276 (1260 * t + 429) (by unfold mGo; omega)).trans rfl))))))) (fun k q1 q2 => (by rw [← hw130]; exact (e_up_ne _ _ (Or.inr (by omega))).trans (by rw [← hw126]; exact (e_up_ne _ _ (Or.inl (by omega))).trans (by rw [← hw123]; exact (e_up_ne _ _ (Or.inr (by omega))).trans (by rw [← hw120]; exact (e_up_ne _ _ (Or.inr (by omega))).trans (by rw [← hw117]; exact (e_up_ne _ _ (Or.inr (by omega))).trans ((q115 276 (1260 * t + k + 476) (by unfold mBe; omega)).trans ((j110 276 (1260 * t + k + 476) (by unfold mGo; omega)).trans rfl)))))))) (by omega) hru
                        have erg : w130 330 (10000 * a + (p + 1)) = w 330 (10000 * a + p) := by rw [show 10000 * a + (p + 1) = 10000 * a + p + 1 by omega]; exact Eq.trans (by rw [← hw130]; exact (e_up_ne _ _ (Or.inl (by omega))).trans (by rw [← hw126]; exact (e_up_ne _ _ (Or.inl (by omega))).trans (by rw [← hw123]; exact (e_up_ne _ _ (Or.inl (by omega))).trans (by rw [← hw120]; exact (e_up_ne _ _ (Or.inl (by omega))).trans (by rw [← hw117]; exact (e_up_ne _ _ (Or.inl (by omega))).trans ((q115 330 (10000 * a + p + 1) (by unfold mBe; omega)).trans ((j110 330 (10000 * a + p + 1) (by unfold mGo; omega)).trans rfl))))))) k8.1.2
                        exact ⟨rfl, f132, hT133, by omega, hmo, Or.inr ⟨(by rw [← hw130]; exact (e_up_ne _ _ (Or.inl (by omega))).trans (by rw [← hw126]; exact e_up_eq _ _ _ _)), (by rw [← hw130]; exact (e_up_ne _ _ (Or.inr (by omega))).trans (by rw [← hw126]; exact (e_up_ne _ _ (Or.inl (by omega))).trans (by rw [← hw123]; exact (e_up_ne _ _ (Or.inr (by omega))).trans (by rw [← hw120]; exact e_up_eq _ _ _ _)))), runOk.at hrn (by omega) (by rw [← hw130]; exact e_up_eq _ _ _ _) erg, by omega⟩⟩
                      · replace h111 : (y6 : Int) < w 329 (10000 * a + p) := by have q : ¬ ((y6 : Int) ≥ w 329 (10000 * a + p)) := h111; omega
                        have hgl := hfit.2 y6 (by omega) (by omega)
                        have hb288 := e_Has.get hT (c := 288) (k := 6 * a + y6) (lo := -100000) (hi := 0) rfl (by decide)
                        have hb289 := e_Has.get hT (c := 289) (k := 6 * a + y6) (lo := 0) (hi := 100000) rfl (by decide)
                        refine e_Ok.run (t' := (161, [(0, (1, 275)), (1, (0, w 329 (10000 * a + p))), (2, (0, p)), (4, (0, 36 * a + 16)), (6, (0, y6))], [(1, 275)], v2)) 1 rfl ?_
                        refine e_Ok.getr (z := 276) rfl rfl rfl rfl ((j110 275 0 (by unfold mGo; omega)).trans (e_Has.eq hT rfl)) (by omega) ?_
                        refine e_Ok.run (t' := (168, [(0, (1, 275)), (1, (0, w 329 (10000 * a + p))), (2, (0, p)), (4, (0, 36 * a + 16)), (6, (0, y6))], [(0, 28), (0, 36 * a + 16), (1, 276)], v2)) 2 rfl ?_
                        refine e_Ok.add (z := 36 * a + 44) rfl (by omega) (by omega) ?_
                        refine e_Ok.run (t' := (171, [(0, (1, 275)), (1, (0, w 329 (10000 * a + p))), (2, (0, p)), (4, (0, 36 * a + 16)), (6, (0, y6))], [(0, y6), (0, 36 * a + 44), (1, 276)], v2)) 1 rfl ?_
                        refine e_Ok.add (z := 36 * a + y6 + 44) rfl (by omega) (by omega) ?_
                        refine e_Ok.run (t' := (173, [(0, (1, 275)), (1, (0, w 329 (10000 * a + p))), (2, (0, p)), (4, (0, 36 * a + 16)), (6, (0, y6))], [(1, 275), (0, 36 * a + y6 + 44), (1, 276)], v2)) 1 rfl ?_
                        refine e_Ok.getr (z := 345) rfl rfl rfl rfl ((j110 275 101 (by unfold mGo; omega)).trans (e_Has.eq hT rfl)) (by omega) ?_
                        refine e_Ok.run (t' := (178, [(0, (1, 275)), (1, (0, w 329 (10000 * a + p))), (2, (0, p)), (4, (0, 36 * a + 16)), (6, (0, y6))], [(0, y6), (1, 345), (0, 36 * a + y6 + 44), (1, 276)], v2)) 1 rfl ?_
                        have h135 := (hst y6 (by omega) (by omega))
                        refine e_Ok.ald (z := w 345 y6) rfl rfl rfl (by omega) ((j110 345 y6 (by unfold mGo; omega)).trans rfl) (by omega) ?_
                        refine e_Ok.ast rfl rfl rfl rfl (by omega) ?_
                        generalize hw136 : e_up v2 276 (36 * a + y6 + 44) (w 345 y6) = w136
                        have f137 : e_fr (mMv t a) w w136 := e_fr.up j106 hw136 (by unfold mMv mLv; omega)
                        have hT138 : e_Has mTy w136 := e_Has.upr j107 hw136 (nR_GOAL (a := a) (j := y6) (by omega) (by omega)) (by omega)
                        refine e_Ok.inc (z := y6 + 1) rfl rfl (by omega) (by omega) ?_
                        show e_Ok 20 elay ecode eI (d + 1) 380 (183, [(6, (0, y6 + 1)), (0, (1, 275)), (1, (0, w 329 (10000 * a + p))), (2, (0, p)), (4, (0, 36 * a + 16))], [], w136) _
                        refine e_Ok.run (t' := (154, [(6, (0, y6 + 1)), (0, (1, 275)), (1, (0, w 329 (10000 * a + p))), (2, (0, p)), (4, (0, 36 * a + 16))], [], w136)) 1 rfl ?_
                        refine e_Ok.sub eAlk (e_sub_of rfl ?_) (ih105 (y6 + 1) w136 ⟨f137, hT138, by omega, (fun j g1 g2 => Decidable.byCases (p := j = y6) (fun e => by rw [e, ← hw136]; exact e_up_eq _ _ _ _) (fun e => Eq.trans (by rw [← hw136]; exact e_up_ne _ _ (Or.inr (by omega))) (j109 j g1 (by omega)))), (e_fr.up j110 hw136 (by unfold mGo; omega))⟩ (by omega))
                        exact ⟨rfl, rfl, rfl, rfl, rfl, trivial⟩
                  refine e_Ok.sub eAlk (e_sub_of rfl ?_) (hL104 (7 + 1 : Int).toNat 0 w ⟨(e_fr.refl w), hT, by omega, (fun j g1 g2 => by omega), (e_fr.refl w)⟩ (by omega))
                  exact ⟨rfl, rfl, rfl, rfl, rfl, trivial⟩
                · replace h103 : (0 : Int) ≠ 0 := by have q : ¬ ((0 : Int) = 0) := h103; omega
                  exfalso; omega
              · replace h102 : (w 276 1 : Int) = 0 := by have q : ¬ ((w 276 1 : Int) ≠ 0) := h102; omega
                refine e_Ok.run (t' := (141, [(5, (0, 5)), (4, (0, 36 * a + 16)), (0, (1, 275)), (1, (0, w 329 (10000 * a + p))), (2, (0, p)), (3, (0, y3))], [(0, 5)], w)) 4 rfl ?_
                refine e_Ok.if1 rfl (fun h139 => ?_) (fun h139 => ?_)
                · replace h139 : (5 : Int) = 0 := h139
                  exfalso; omega
                · replace h139 : (5 : Int) ≠ 0 := by have q : ¬ ((5 : Int) = 0) := h139; omega
                  refine e_Ok.run (t' := (147, [(5, (0, 5)), (4, (0, 36 * a + 16)), (0, (1, 275)), (1, (0, w 329 (10000 * a + p))), (2, (0, p)), (3, (0, y3))], [(0, 5), (1, 275)], w)) 2 rfl ?_
                  refine e_Ok.callV rfl (by omega) rfl rfl rfl rfl (c_369 (by omega) hT (by omega) (by omega) h96 h97 h98 hC hP (by omega) (by omega)) (fun r140 w141 h142 => ?_)
                  obtain ⟨rfl, ⟨q143, q143S⟩, q143T, q143n, q143d, q143c⟩ := h142
                  have f144 : e_fr (mMv t a) w w141 := e_fr.trans (e_fr.refl w) (e_fr.mono q143 (fun c k q => by exact Or.inl q))
                  show e_Ok 20 elay ecode eI (d + 1) 380 (150, [(5, (0, 5)), (4, (0, 36 * a + 16)), (0, (1, 275)), (1, (0, w 329 (10000 * a + p))), (2, (0, p)), (3, (0, y3))], [], w141) _
                  refine e_Ok.rets rfl rfl ?_
                  exact ⟨rfl, f144, q143T, by omega, mMo.rel hMo (e_Has.mo hT) hCf (sRel.trans sRel.refl q143S) (fun c k q => q143 c k (moK_lv ht q)), Or.inl ⟨q143d, q143c⟩⟩
            · replace h100 : (w 276 (36 * a + 16) : Int) ≠ 0 := by have q : ¬ ((w 276 (36 * a + 16) : Int) = 0) := h100; omega
              refine e_Ok.run (t' := (141, [(5, (0, 4)), (4, (0, 36 * a + 16)), (0, (1, 275)), (1, (0, w 329 (10000 * a + p))), (2, (0, p)), (3, (0, y3))], [(0, 4)], w)) 4 rfl ?_
              refine e_Ok.if1 rfl (fun h145 => ?_) (fun h145 => ?_)
              · replace h145 : (4 : Int) = 0 := h145
                exfalso; omega
              · replace h145 : (4 : Int) ≠ 0 := by have q : ¬ ((4 : Int) = 0) := h145; omega
                refine e_Ok.run (t' := (147, [(5, (0, 4)), (4, (0, 36 * a + 16)), (0, (1, 275)), (1, (0, w 329 (10000 * a + p))), (2, (0, p)), (3, (0, y3))], [(0, 4), (1, 275)], w)) 2 rfl ?_
                refine e_Ok.callV rfl (by omega) rfl rfl rfl rfl (c_369 (by omega) hT (by omega) (by omega) h96 h97 h98 hC hP (by omega) (by omega)) (fun r146 w147 h148 => ?_)
                obtain ⟨rfl, ⟨q149, q149S⟩, q149T, q149n, q149d, q149c⟩ := h148
                have f150 : e_fr (mMv t a) w w147 := e_fr.trans (e_fr.refl w) (e_fr.mono q149 (fun c k q => by exact Or.inl q))
                show e_Ok 20 elay ecode eI (d + 1) 380 (150, [(5, (0, 4)), (4, (0, 36 * a + 16)), (0, (1, 275)), (1, (0, w 329 (10000 * a + p))), (2, (0, p)), (3, (0, y3))], [], w147) _
                refine e_Ok.rets rfl rfl ?_
                exact ⟨rfl, f150, q149T, by omega, mMo.rel hMo (e_Has.mo hT) hCf (sRel.trans sRel.refl q149S) (fun c k q => q149 c k (moK_lv ht q)), Or.inl ⟨q149d, q149c⟩⟩
          · replace h98 : (y3 : Int) = 0 := by have q : ¬ ((y3 : Int) ≠ 0) := h98; omega
            refine e_Ok.run (t' := (141, [(5, (0, 3)), (4, (0, 36 * a + 16)), (0, (1, 275)), (1, (0, w 329 (10000 * a + p))), (2, (0, p)), (3, (0, y3))], [(0, 3)], w)) 4 rfl ?_
            refine e_Ok.if1 rfl (fun h151 => ?_) (fun h151 => ?_)
            · replace h151 : (3 : Int) = 0 := h151
              exfalso; omega
            · replace h151 : (3 : Int) ≠ 0 := by have q : ¬ ((3 : Int) = 0) := h151; omega
              refine e_Ok.run (t' := (147, [(5, (0, 3)), (4, (0, 36 * a + 16)), (0, (1, 275)), (1, (0, w 329 (10000 * a + p))), (2, (0, p)), (3, (0, y3))], [(0, 3), (1, 275)], w)) 2 rfl ?_
              refine e_Ok.callV rfl (by omega) rfl rfl rfl rfl (c_369 (by omega) hT (by omega) (by omega) h96 h97 h98 hC hP (by omega) (by omega)) (fun r152 w153 h154 => ?_)
              obtain ⟨rfl, ⟨q155, q155S⟩, q155T, q155n, q155d, q155c⟩ := h154
              have f156 : e_fr (mMv t a) w w153 := e_fr.trans (e_fr.refl w) (e_fr.mono q155 (fun c k q => by exact Or.inl q))
              show e_Ok 20 elay ecode eI (d + 1) 380 (150, [(5, (0, 3)), (4, (0, 36 * a + 16)), (0, (1, 275)), (1, (0, w 329 (10000 * a + p))), (2, (0, p)), (3, (0, y3))], [], w153) _
              refine e_Ok.rets rfl rfl ?_
              exact ⟨rfl, f156, q155T, by omega, mMo.rel hMo (e_Has.mo hT) hCf (sRel.trans sRel.refl q155S) (fun c k q => q155 c k (moK_lv ht q)), Or.inl ⟨q155d, q155c⟩⟩
        · replace h94 : (y4 : Int) < w 286 a := by have q : ¬ ((y4 : Int) ≥ w 286 a) := h94; omega
          refine e_Ok.run (t' := (37, [(0, (1, 275)), (1, (0, w 329 (10000 * a + p))), (2, (0, p)), (3, (0, y3)), (4, (0, y4))], [(0, y3)], w)) 1 rfl ?_
          refine e_Ok.if1 rfl (fun h157 => ?_) (fun h157 => ?_)
          · replace h157 : (y3 : Int) = 0 := h157
            refine e_Ok.run (t' := (91, [(0, (1, 275)), (1, (0, w 329 (10000 * a + p))), (2, (0, p)), (3, (0, y3)), (4, (0, y4))], [(1, 275)], w)) 1 rfl ?_
            refine e_Ok.getf (z := a) rfl rfl rfl rfl h98 (by omega) ?_
            refine e_Ok.callS rfl (by omega) rfl rfl (c_268 (by omega)) (fun r158 w159 h160 => ?_)
            obtain ⟨rfl, rfl⟩ := h160
            show e_Ok 20 elay ecode eI (d + 1) 380 (97, [(0, (1, 275)), (1, (0, w 329 (10000 * a + p))), (2, (0, p)), (3, (0, y3)), (4, (0, y4))], [(0, 36 * a + 16)], w) _
            refine e_Ok.run (t' := (100, [(4, (0, 36 * a + 16)), (0, (1, 275)), (1, (0, w 329 (10000 * a + p))), (2, (0, p)), (3, (0, y3))], [(0, y3)], w)) 2 rfl ?_
            refine e_Ok.if1 rfl (fun h161 => ?_) (fun h161 => ?_)
            · replace h161 : (y3 : Int) ≠ 0 := h161
              exfalso; omega
            · replace h161 : (y3 : Int) = 0 := by have q : ¬ ((y3 : Int) ≠ 0) := h161; omega
              refine e_Ok.run (t' := (141, [(5, (0, 3)), (4, (0, 36 * a + 16)), (0, (1, 275)), (1, (0, w 329 (10000 * a + p))), (2, (0, p)), (3, (0, y3))], [(0, 3)], w)) 4 rfl ?_
              refine e_Ok.if1 rfl (fun h162 => ?_) (fun h162 => ?_)
              · replace h162 : (3 : Int) = 0 := h162
                exfalso; omega
              · replace h162 : (3 : Int) ≠ 0 := by have q : ¬ ((3 : Int) = 0) := h162; omega
                refine e_Ok.run (t' := (147, [(5, (0, 3)), (4, (0, 36 * a + 16)), (0, (1, 275)), (1, (0, w 329 (10000 * a + p))), (2, (0, p)), (3, (0, y3))], [(0, 3), (1, 275)], w)) 2 rfl ?_
                refine e_Ok.callV rfl (by omega) rfl rfl rfl rfl (c_369 (by omega) hT (by omega) (by omega) h96 h97 h98 hC hP (by omega) (by omega)) (fun r163 w164 h165 => ?_)
                obtain ⟨rfl, ⟨q166, q166S⟩, q166T, q166n, q166d, q166c⟩ := h165
                have f167 : e_fr (mMv t a) w w164 := e_fr.trans (e_fr.refl w) (e_fr.mono q166 (fun c k q => by exact Or.inl q))
                show e_Ok 20 elay ecode eI (d + 1) 380 (150, [(5, (0, 3)), (4, (0, 36 * a + 16)), (0, (1, 275)), (1, (0, w 329 (10000 * a + p))), (2, (0, p)), (3, (0, y3))], [], w164) _
                refine e_Ok.rets rfl rfl ?_
                exact ⟨rfl, f167, q166T, by omega, mMo.rel hMo (e_Has.mo hT) hCf (sRel.trans sRel.refl q166S) (fun c k q => q166 c k (moK_lv ht q)), Or.inl ⟨q166d, q166c⟩⟩
          · replace h157 : (y3 : Int) ≠ 0 := by have q : ¬ ((y3 : Int) = 0) := h157; omega
            have hfi := j93 (by omega)
            refine e_Ok.run (t' := (41, [(0, (1, 275)), (1, (0, w 329 (10000 * a + p))), (2, (0, p)), (3, (0, y3)), (4, (0, y4))], [(1, 275)], w)) 1 rfl ?_
            refine e_Ok.getr (z := 345) rfl rfl rfl rfl (e_Has.eq hT rfl) (by omega) ?_
            refine e_Ok.run (t' := (46, [(0, (1, 275)), (1, (0, w 329 (10000 * a + p))), (2, (0, p)), (3, (0, y3)), (4, (0, y4))], [(0, y4), (1, 345)], w)) 1 rfl ?_
            have h168 := (hst y4 (by omega) (by omega))
            refine e_Ok.ald (z := w 345 y4) rfl rfl rfl (by omega) rfl (by omega) ?_
            refine e_Ok.run (t' := (49, [(0, (1, 275)), (1, (0, w 329 (10000 * a + p))), (2, (0, p)), (3, (0, y3)), (4, (0, y4))], [(1, 275), (4, w 345 y4)], w)) 2 rfl ?_
            refine e_Ok.getr (z := 288) rfl rfl rfl rfl (e_Has.eq hT rfl) (by omega) ?_
            refine e_Ok.run (t' := (55, [(0, (1, 275)), (1, (0, w 329 (10000 * a + p))), (2, (0, p)), (3, (0, y3)), (4, (0, y4))], [(1, 275), (0, 6), (1, 288), (4, w 345 y4)], w)) 2 rfl ?_
            refine e_Ok.getf (z := a) rfl rfl rfl rfl h98 (by omega) ?_
            refine e_Ok.mul (z := 6 * a) rfl (by omega) (by omega) ?_
            refine e_Ok.run (t' := (61, [(0, (1, 275)), (1, (0, w 329 (10000 * a + p))), (2, (0, p)), (3, (0, y3)), (4, (0, y4))], [(0, y4), (0, 6 * a), (1, 288), (4, w 345 y4)], w)) 1 rfl ?_
            refine e_Ok.add (z := 6 * a + y4) rfl (by omega) (by omega) ?_
            have h169 := (e_Has.get hT (c := 288) (k := 6 * a + y4) (lo := (-100000)) (hi := 0) rfl (by decide))
            refine e_Ok.ald (z := w 288 (6 * a + y4)) rfl rfl rfl (by omega) rfl (by omega) ?_
            refine e_Ok.run (t' := (65, [(0, (1, 275)), (1, (0, w 329 (10000 * a + p))), (2, (0, p)), (3, (0, y3)), (4, (0, y4))], [(1, 275), (4, w 288 (6 * a + y4)), (4, w 345 y4)], w)) 2 rfl ?_
            refine e_Ok.getr (z := 289) rfl rfl rfl rfl (e_Has.eq hT rfl) (by omega) ?_
            refine e_Ok.run (t' := (71, [(0, (1, 275)), (1, (0, w 329 (10000 * a + p))), (2, (0, p)), (3, (0, y3)), (4, (0, y4))], [(1, 275), (0, 6), (1, 289), (4, w 288 (6 * a + y4)), (4, w 345 y4)], w)) 2 rfl ?_
            refine e_Ok.getf (z := a) rfl rfl rfl rfl h98 (by omega) ?_
            refine e_Ok.mul (z := 6 * a) rfl (by omega) (by omega) ?_
            refine e_Ok.run (t' := (77, [(0, (1, 275)), (1, (0, w 329 (10000 * a + p))), (2, (0, p)), (3, (0, y3)), (4, (0, y4))], [(0, y4), (0, 6 * a), (1, 289), (4, w 288 (6 * a + y4)), (4, w 345 y4)], w)) 1 rfl ?_
            refine e_Ok.add (z := 6 * a + y4) rfl (by omega) (by omega) ?_
            have h170 := (e_Has.get hT (c := 289) (k := 6 * a + y4) (lo := 0) (hi := 100000) rfl (by decide))
            refine e_Ok.ald (z := w 289 (6 * a + y4)) rfl rfl rfl (by omega) rfl (by omega) ?_
            refine e_Ok.run (t' := (80, [(0, (1, 275)), (1, (0, w 329 (10000 * a + p))), (2, (0, p)), (3, (0, y3)), (4, (0, y4))], [(4, w 289 (6 * a + y4)), (4, w 288 (6 * a + y4)), (4, w 345 y4)], w)) 1 rfl ?_
            refine e_Ok.callS rfl (by omega) rfl rfl (c_266) (fun r171 w172 h173 => ?_)
            obtain ⟨z174, rfl, rfl, q175⟩ := h173
            obtain ⟨rfl, q175⟩ | ⟨rfl, q175⟩ := q175
            · show e_Ok 20 elay ecode eI (d + 1) 380 (83, [(0, (1, 275)), (1, (0, w 329 (10000 * a + p))), (2, (0, p)), (3, (0, y3)), (4, (0, y4))], [(0, 1)], w) _
              refine e_Ok.run (t' := (84, [(3, (0, 1)), (0, (1, 275)), (1, (0, w 329 (10000 * a + p))), (2, (0, p)), (4, (0, y4))], [], w)) 1 rfl ?_
              refine e_Ok.inc (z := y4 + 1) rfl rfl (by omega) (by omega) ?_
              show e_Ok 20 elay ecode eI (d + 1) 380 (87, [(4, (0, y4 + 1)), (3, (0, 1)), (0, (1, 275)), (1, (0, w 329 (10000 * a + p))), (2, (0, p))], [], w) _
              refine e_Ok.run (t' := (22, [(4, (0, y4 + 1)), (3, (0, 1)), (0, (1, 275)), (1, (0, w 329 (10000 * a + p))), (2, (0, p))], [], w)) 1 rfl ?_
              refine e_Ok.sub eAlk (e_sub_of rfl ?_) (ih90 1 (y4 + 1) ⟨by omega, by omega, (fun _ => ⟨hfi.1, fun j g1 g2 => Decidable.byCases (p := j = y4) (fun e => by rw [e]; omega) (fun e => hfi.2 j g1 (by omega))⟩)⟩ (by omega))
              exact ⟨rfl, rfl, rfl, rfl, rfl, trivial⟩
            · show e_Ok 20 elay ecode eI (d + 1) 380 (83, [(0, (1, 275)), (1, (0, w 329 (10000 * a + p))), (2, (0, p)), (3, (0, y3)), (4, (0, y4))], [(0, 0)], w) _
              refine e_Ok.run (t' := (84, [(3, (0, 0)), (0, (1, 275)), (1, (0, w 329 (10000 * a + p))), (2, (0, p)), (4, (0, y4))], [], w)) 1 rfl ?_
              refine e_Ok.inc (z := y4 + 1) rfl rfl (by omega) (by omega) ?_
              show e_Ok 20 elay ecode eI (d + 1) 380 (87, [(4, (0, y4 + 1)), (3, (0, 0)), (0, (1, 275)), (1, (0, w 329 (10000 * a + p))), (2, (0, p))], [], w) _
              refine e_Ok.run (t' := (22, [(4, (0, y4 + 1)), (3, (0, 0)), (0, (1, 275)), (1, (0, w 329 (10000 * a + p))), (2, (0, p))], [], w)) 1 rfl ?_
              refine e_Ok.sub eAlk (e_sub_of rfl ?_) (ih90 0 (y4 + 1) ⟨by omega, by omega, (fun e => by omega)⟩ (by omega))
              exact ⟨rfl, rfl, rfl, rfl, rfl, trivial⟩
    refine e_Ok.sub eAlk (e_sub_of rfl ?_) (hL89 (7 + 1 : Int).toNat 1 0 ⟨by omega, by omega, (fun e => ⟨by omega, fun j g1 g2 => by omega⟩)⟩ (by omega))
    exact ⟨rfl, rfl, rfl, rfl, rfl, trivial⟩
end
