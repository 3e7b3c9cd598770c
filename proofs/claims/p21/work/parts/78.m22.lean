noncomputable section
theorem mCf.fr {w w' : eW} (h : mCf w) (hf : ∀ c k, c = 286 ∨ c = 290 ∨ c = 291 → w' c k = w c k) : mCf w' := fun a j g1 g2 g3 g4 => by
  rw [hf 290 _ (by omega), hf 291 _ (by omega)]
  rw [hf 286 _ (by omega)] at g4
  exact h a j g1 g2 g3 g4
def mGo (a c k : Int) : Prop := c = 276 ∧ 36 * a + 44 ≤ k ∧ k ≤ 36 * a + 49
def mMv (t a c k : Int) : Prop := mLv t c k ∨ (c = 276 ∧ (k = 36 * a + 16 ∨ k = 36 * a + 24 ∨ k = 36 * a + 25 ∨ k = 36 * a + 27 ∨ (36 * a + 44 ≤ k ∧ k ≤ 36 * a + 49) ∨ k = 1260 * t + 423))
theorem moK_lv {t c k : Int} (ht : 0 ≤ t ∧ t ≤ 15) (q : moK c k) : ¬ mLv t c k := by unfold moK at q; unfold mLv; omega
theorem moK_mv {t a c k : Int} (ht : 0 ≤ t ∧ t ≤ 15) (ha : 0 ≤ a ∧ a ≤ 3) (q : moK c k) (q2 : ¬ (c = 276 ∧ ((36 * a + 44 ≤ k ∧ k ≤ 36 * a + 49) ∨ k = 36 * a + 23))) : ¬ mMv t a c k := fun h => h.elim (moK_lv ht q) (fun h => by unfold moK at q; omega)
theorem moK_275 {c k i : Int} (q : moK c k) (hi : i ≠ 10) : c ≠ 275 ∨ k ≠ i := by unfold moK at q; omega
theorem moK_now {c k i : Int} (q : moK c k) (hi : 160 ≤ i ∧ i < 21060) : c ≠ 276 ∨ k ≠ i := by unfold moK at q; omega
theorem no_78_0 {a : Int} {k : Int} : ¬ mGo a 275 k := by unfold mGo; omega
theorem no_78_1 {a : Int} {k : Int} : ¬ mBe a 275 k := by unfold mBe; omega
theorem no_78_2 {a : Int} {t : Int} (ha : 0 ≤ a ∧ a ≤ 3) (ht : 0 ≤ t ∧ t ≤ 15) : ¬ mBe a 276 (1260 * t + 428) := by unfold mBe; omega
theorem no_78_3 {a : Int} {t : Int} (ha : 0 ≤ a ∧ a ≤ 3) (ht : 0 ≤ t ∧ t ≤ 15) : ¬ mGo a 276 (1260 * t + 428) := by unfold mGo; omega
theorem no_78_4 {a : Int} (ha : 0 ≤ a ∧ a ≤ 3) : ¬ mBe a 276 5 := by unfold mBe; omega
theorem no_78_5 {a : Int} (ha : 0 ≤ a ∧ a ≤ 3) : ¬ mGo a 276 5 := by unfold mGo; omega
theorem no_78_6 {a : Int} {b : Int} (ha : 0 ≤ a ∧ a ≤ 3) (hb : 0 ≤ b ∧ b ≤ 3) : ¬ mGo a 276 (36 * b + 16) := by unfold mGo; omega
theorem no_78_7 {a : Int} {b : Int} (ha : 0 ≤ a ∧ a ≤ 3) (hb : 0 ≤ b ∧ b ≤ 3) : ¬ mBe a 276 (36 * b + 22) := by unfold mBe; omega
theorem no_78_8 {a : Int} {b : Int} (ha : 0 ≤ a ∧ a ≤ 3) (hb : 0 ≤ b ∧ b ≤ 3) : ¬ mGo a 276 (36 * b + 22) := by unfold mGo; omega
theorem no_78_9 {a : Int} {j : Int} (ha : 0 ≤ a ∧ a ≤ 3) (hj : 0 ≤ j ∧ j ≤ 5) : ¬ mBe a 276 (36 * a + j + 44) := by unfold mBe; omega
theorem no_78_10 {a : Int} (ha : 0 ≤ a ∧ a ≤ 3) : ¬ mBe a 276 (36 * a + 22) := by unfold mBe; omega
theorem no_78_11 {a : Int} (ha : 0 ≤ a ∧ a ≤ 3) : ¬ mGo a 276 (36 * a + 22) := by unfold mGo; omega
theorem no_78_12 {a : Int} {t : Int} {i : Int} (ha : 0 ≤ a ∧ a ≤ 3) (ht : 0 ≤ t ∧ t ≤ 15) (hi : 0 ≤ i ∧ i ≤ 5) : ¬ mBe a 276 (1260 * t + 2 * i + 436) := by unfold mBe; omega
theorem no_78_13 {a : Int} {t : Int} {i : Int} (ha : 0 ≤ a ∧ a ≤ 3) (ht : 0 ≤ t ∧ t ≤ 15) (hi : 0 ≤ i ∧ i ≤ 5) : ¬ mGo a 276 (1260 * t + 2 * i + 436) := by unfold mGo; omega
theorem no_78_14 {a : Int} {t : Int} {i : Int} (ha : 0 ≤ a ∧ a ≤ 3) (ht : 0 ≤ t ∧ t ≤ 15) (hi : 0 ≤ i ∧ i ≤ 5) : ¬ mBe a 276 (1260 * t + 2 * i + 439) := by unfold mBe; omega
theorem no_78_15 {a : Int} {t : Int} {i : Int} (ha : 0 ≤ a ∧ a ≤ 3) (ht : 0 ≤ t ∧ t ≤ 15) (hi : 0 ≤ i ∧ i ≤ 5) : ¬ mGo a 276 (1260 * t + 2 * i + 439) := by unfold mGo; omega
theorem no_78_16 {a : Int} {t : Int} (ha : 0 ≤ a ∧ a ≤ 3) (ht : 0 ≤ t ∧ t ≤ 15) : ¬ mBe a 276 (1260 * t + 429) := by unfold mBe; omega
theorem no_78_17 {a : Int} {t : Int} (ha : 0 ≤ a ∧ a ≤ 3) (ht : 0 ≤ t ∧ t ≤ 15) : ¬ mGo a 276 (1260 * t + 429) := by unfold mGo; omega
theorem no_78_18 {a : Int} {k : Int} : ¬ mBe a 330 k := by unfold mBe; omega
theorem no_78_19 {a : Int} {k : Int} : ¬ mGo a 330 k := by unfold mGo; omega
theorem no_78_20 {a : Int} {k : Int} : ¬ mGo a 345 k := by unfold mGo; omega
theorem su_78_21 {a : Int} {t : Int} {c k : Int} (q : mBe a c k) : mMv t a c k := by
  unfold mBe at q
  rcases q with ⟨q, (q | q | q | q)⟩
  · exact Or.inr ⟨(by omega), Or.inl (by omega)⟩
  · exact Or.inr ⟨(by omega), Or.inr (Or.inl (by omega))⟩
  · exact Or.inr ⟨(by omega), Or.inr (Or.inr (Or.inl (by omega)))⟩
  · exact Or.inr ⟨(by omega), Or.inr (Or.inr (Or.inr (Or.inl (by omega))))⟩
set_option maxHeartbeats 4000000 in
theorem c_380 {d : Nat} (hd : 33 ≤ d) {w : eW} (hT : e_Has mTy w) (hCf : mCf w) (hMo : mMo w (-1)) {t a g : Int} (ht : 0 ≤ t ∧ t ≤ 15) (ha : 0 ≤ a ∧ a ≤ 3) (h96 : w 275 96 = t) (h97 : w 275 97 = 1260 * t + 416) (h98 : w 275 98 = a) {n nt nw : Int} {dl sg pi en : Int → Int} {an br : Int → Int → Prop} {bs ow : Int → Int} (hC : cOk w a n nt nw dl sg pi en an br) {p : Int} (hP : topOk w a t g p n nt nw dl sg pi an br bs ow) (hE : w 276 5 ≤ 2147483000) (h102 : w 275 102 = dl p) (hst : e_kn w 345 0 (dl p - 1)) (hop : w 328 (10000 * a + p) = 32) : e_Ok 20 elay ecode eI d 380 (0, [(0, (1, 275)), (1, (0, w 329 (10000 * a + p))), (2, (0, p))], [], w) (fun r' w' => r' = [] ∧ e_fr (mMv t a) w w' ∧ e_Has mTy w' ∧ (w 276 5 ≤ w' 276 5 ∧ w' 276 5 ≤ w 276 5 + 2) ∧ mMo w' (-1) ∧ ((w' 275 102 = 0 ∧ ((w' 275 100 = 1 ∧ (w' 276 (1260 * t + 416) = 6 ∨ w' 276 (1260 * t + 416) = 7)) ∨ (w' 275 100 = w 275 100 ∧ w' 276 (1260 * t + 416) = w 276 (1260 * t + 416) ∧ w' 276 5 = w 276 5 ∧ ∃ (g' p' : Int) (bs' ow' : Int → Int), g' ≤ g ∧ (g' = g → p < p') ∧ topOk w' a t g' p' n nt nw dl sg pi an br bs' ow' ∧ dl p' = 0 ∧ sg p' = 0))) ∨ (w' 275 100 = 1 ∧ w' 276 (1260 * t + 416) = 2 ∧ topOk w' a t g (p + 1) n nt nw dl sg pi an br bs ow ∧ dl (p + 1) = 0))) := by
  obtain ⟨d, rfl⟩ : ∃ e, d = e + 1 := ⟨d - 1, by omega⟩
  obtain ⟨hpn, hpc, hru⟩ := id hP
  obtain ⟨hg, hF, hlow, hrr, hPn, hch, hpe⟩ := id hru
  have hCn := hC.1
  have hins := hC.2.1 p hpn.1 hpn.2
  have hbg := hlow.2.1 g (by omega) (by omega)
  have hpen := hins.1.2.2.2.1
  have hpib := hC.2.2.2.1.2.1 _ hrr.1 hrr.2
  obtain ⟨hi0, -, -, -, -, -, -, -, hi8, -, hi10, -, -, -, -, -, -, -, -, -⟩ := id hins
  have hja := (e_Has.get hT (c := 286) (k := a) (lo := 0) (hi := 6) rfl (by decide))
  have k8 := hi8 (by omega)
  unfold iS iFT at k8
  have k10 := hi10 hop
  refine e_Ok.run (t' := (2, [(0, (1, 275)), (1, (0, w 329 (10000 * a + p))), (2, (0, p))], [(1, 275), (0, w 329 (10000 * a + p))], w)) 2 rfl ?_
  refine e_Ok.getr (z := 286) rfl (el_o rfl) rfl rfl (e_Has.eq hT rfl) (by omega) ?_
  refine e_Ok.run (t' := (6, [(0, (1, 275)), (1, (0, w 329 (10000 * a + p))), (2, (0, p))], [(1, 275), (1, 286), (0, w 329 (10000 * a + p))], w)) 1 rfl ?_
  refine e_Ok.getf (z := a) rfl (el_o rfl) rfl rfl h98 (by omega) ?_
  refine e_Ok.ald (z := w 286 a) rfl (el_o rfl) rfl (by omega) rfl (by omega) ?_
  refine e_Ok.if2 rfl (fun h1 => ?_) (fun h1 => ?_)
  · replace h1 : (w 329 (10000 * a + p) : Int) ≠ w 286 a := h1
    refine e_Ok.run (t' := (22, [(4, (0, 0)), (3, (0, 0)), (0, (1, 275)), (1, (0, w 329 (10000 * a + p))), (2, (0, p))], [], w)) 4 rfl ?_
    have hL2 : ∀ (nn : Nat) (y3 : Int) (y4 : Int), (0 ≤ y3 ∧ y3 ≤ 1) ∧ (0 ≤ y4 ∧ y4 ≤ 6) ∧ ((y3 = 1 → w 329 (10000 * a + p) = w 286 a ∧ ∀ j, 0 ≤ j → j < y4 → w 288 (6 * a + j) ≤ w 345 j ∧ w 345 j ≤ w 289 (6 * a + j))) → 7 - y4 < nn → e_Ok 20 elay ecode eI (d + 1) 380 (22, [(0, (1, 275)), (1, (0, w 329 (10000 * a + p))), (2, (0, p)), (3, (0, y3)), (4, (0, y4))], [], w) (fun r' w' => r' = [] ∧ e_fr (mMv t a) w w' ∧ e_Has mTy w' ∧ (w 276 5 ≤ w' 276 5 ∧ w' 276 5 ≤ w 276 5 + 2) ∧ mMo w' (-1) ∧ ((w' 275 102 = 0 ∧ ((w' 275 100 = 1 ∧ (w' 276 (1260 * t + 416) = 6 ∨ w' 276 (1260 * t + 416) = 7)) ∨ (w' 275 100 = w 275 100 ∧ w' 276 (1260 * t + 416) = w 276 (1260 * t + 416) ∧ w' 276 5 = w 276 5 ∧ ∃ (g' p' : Int) (bs' ow' : Int → Int), g' ≤ g ∧ (g' = g → p < p') ∧ topOk w' a t g' p' n nt nw dl sg pi an br bs' ow' ∧ dl p' = 0 ∧ sg p' = 0))) ∨ (w' 275 100 = 1 ∧ w' 276 (1260 * t + 416) = 2 ∧ topOk w' a t g (p + 1) n nt nw dl sg pi an br bs ow ∧ dl (p + 1) = 0))) := by
      intro nn
      induction nn with
      | zero => intro y3 y4 hj hm; obtain ⟨j4, j5, j6⟩ := hj; exfalso; omega
      | succ nn ih3 =>
        intro y3 y4 hj hm
        obtain ⟨j4, j5, j6⟩ := hj
        refine e_Ok.run (t' := (25, [(0, (1, 275)), (1, (0, w 329 (10000 * a + p))), (2, (0, p)), (3, (0, y3)), (4, (0, y4))], [(1, 275), (0, y4)], w)) 2 rfl ?_
        refine e_Ok.getr (z := 286) rfl (el_o rfl) rfl rfl (e_Has.eq hT rfl) (by omega) ?_
        refine e_Ok.run (t' := (29, [(0, (1, 275)), (1, (0, w 329 (10000 * a + p))), (2, (0, p)), (3, (0, y3)), (4, (0, y4))], [(1, 275), (1, 286), (0, y4)], w)) 1 rfl ?_
        refine e_Ok.getf (z := a) rfl (el_o rfl) rfl rfl h98 (by omega) ?_
        refine e_Ok.ald (z := w 286 a) rfl (el_o rfl) rfl (by omega) rfl (by omega) ?_
        refine e_Ok.if2 rfl (fun h7 => ?_) (fun h7 => ?_)
        · replace h7 : (y4 : Int) ≥ w 286 a := h7
          refine e_Ok.run (t' := (91, [(0, (1, 275)), (1, (0, w 329 (10000 * a + p))), (2, (0, p)), (3, (0, y3)), (4, (0, y4))], [(1, 275)], w)) 1 rfl ?_
          refine e_Ok.getf (z := a) rfl (el_o rfl) rfl rfl h98 (by omega) ?_
          refine e_Ok.callS rfl (by omega) rfl rfl (c_268 (by omega)) (fun r8 w9 h10 => ?_)
          obtain ⟨rfl, rfl⟩ := h10
          show e_Ok 20 elay ecode eI (d + 1) 380 (97, [(0, (1, 275)), (1, (0, w 329 (10000 * a + p))), (2, (0, p)), (3, (0, y3)), (4, (0, y4))], [(0, 36 * a + 16)], w) _
          refine e_Ok.run (t' := (100, [(4, (0, 36 * a + 16)), (0, (1, 275)), (1, (0, w 329 (10000 * a + p))), (2, (0, p)), (3, (0, y3))], [(0, y3)], w)) 2 rfl ?_
          refine e_Ok.if1 rfl (fun h11 => ?_) (fun h11 => ?_)
          · replace h11 : (y3 : Int) ≠ 0 := h11
            refine e_Ok.run (t' := (108, [(4, (0, 36 * a + 16)), (0, (1, 275)), (1, (0, w 329 (10000 * a + p))), (2, (0, p)), (3, (0, y3))], [(1, 275)], w)) 1 rfl ?_
            refine e_Ok.getr (z := 276) rfl (el_o rfl) rfl rfl (e_Has.eq hT rfl) (by omega) ?_
            refine e_Ok.run (t' := (114, [(4, (0, 36 * a + 16)), (0, (1, 275)), (1, (0, w 329 (10000 * a + p))), (2, (0, p)), (3, (0, y3))], [(0, 0), (0, 36 * a + 16), (1, 276)], w)) 2 rfl ?_
            refine e_Ok.add (z := 36 * a + 16) rfl (by omega) (by omega) ?_
            have h12 := (e_Has.get hT (c := 276) (k := 36 * a + 16) (lo := 0) (hi := 2) (nR_STATE (a := a) (by omega)) (by decide))
            refine e_Ok.ald (z := w 276 (36 * a + 16)) rfl (el_o rfl) rfl (by omega) rfl (by omega) ?_
            refine e_Ok.if1 rfl (fun h13 => ?_) (fun h13 => ?_)
            · replace h13 : (w 276 (36 * a + 16) : Int) = 0 := h13
              refine e_Ok.run (t' := (124, [(4, (0, 36 * a + 16)), (0, (1, 275)), (1, (0, w 329 (10000 * a + p))), (2, (0, p)), (3, (0, y3))], [(1, 275)], w)) 1 rfl ?_
              refine e_Ok.getr (z := 276) rfl (el_o rfl) rfl rfl (e_Has.eq hT rfl) (by omega) ?_
              refine e_Ok.run (t' := (128, [(4, (0, 36 * a + 16)), (0, (1, 275)), (1, (0, w 329 (10000 * a + p))), (2, (0, p)), (3, (0, y3))], [(0, 1), (1, 276)], w)) 1 rfl ?_
              have h14 := (e_Has.get hT (c := 276) (k := 1) (lo := 0) (hi := 1) rfl (by decide))
              refine e_Ok.ald (z := w 276 1) rfl (el_o rfl) rfl (by omega) rfl (by omega) ?_
              refine e_Ok.if1 rfl (fun h15 => ?_) (fun h15 => ?_)
              · replace h15 : (w 276 1 : Int) ≠ 0 := h15
                refine e_Ok.run (t' := (141, [(5, (0, 0)), (4, (0, 36 * a + 16)), (0, (1, 275)), (1, (0, w 329 (10000 * a + p))), (2, (0, p)), (3, (0, y3))], [(0, 0)], w)) 3 rfl ?_
                refine e_Ok.if1 rfl (fun h16 => ?_) (fun h16 => ?_)
                · replace h16 : (0 : Int) = 0 := h16
                  have hfit := j6 (by omega)
                  refine e_Ok.run (t' := (154, [(6, (0, 0)), (5, (0, 0)), (4, (0, 36 * a + 16)), (0, (1, 275)), (1, (0, w 329 (10000 * a + p))), (2, (0, p)), (3, (0, y3))], [], w)) 2 rfl ?_
                  have hL17 : ∀ (nn : Nat) (y6 : Int) (v2 : eW), e_fr (mMv t a) w v2 ∧ e_Has mTy v2 ∧ (0 ≤ y6 ∧ y6 ≤ 6) ∧ (∀ j, 0 ≤ j → j < y6 → v2 276 (36 * a + j + 44) = w 345 j) ∧ e_fr (mGo a) w v2 → 7 - y6 < nn → e_Ok 20 elay ecode eI (d + 1) 380 (154, [(0, (1, 275)), (1, (0, w 329 (10000 * a + p))), (2, (0, p)), (4, (0, 36 * a + 16)), (6, (0, y6))], [], v2) (fun r' w' => r' = [] ∧ e_fr (mMv t a) w w' ∧ e_Has mTy w' ∧ (w 276 5 ≤ w' 276 5 ∧ w' 276 5 ≤ w 276 5 + 2) ∧ mMo w' (-1) ∧ ((w' 275 102 = 0 ∧ ((w' 275 100 = 1 ∧ (w' 276 (1260 * t + 416) = 6 ∨ w' 276 (1260 * t + 416) = 7)) ∨ (w' 275 100 = w 275 100 ∧ w' 276 (1260 * t + 416) = w 276 (1260 * t + 416) ∧ w' 276 5 = w 276 5 ∧ ∃ (g' p' : Int) (bs' ow' : Int → Int), g' ≤ g ∧ (g' = g → p < p') ∧ topOk w' a t g' p' n nt nw dl sg pi an br bs' ow' ∧ dl p' = 0 ∧ sg p' = 0))) ∨ (w' 275 100 = 1 ∧ w' 276 (1260 * t + 416) = 2 ∧ topOk w' a t g (p + 1) n nt nw dl sg pi an br bs ow ∧ dl (p + 1) = 0))) := by
                    intro nn
                    induction nn with
                    | zero => intro y6 v2 hj hm; obtain ⟨j19, j20, j21, j22, j23⟩ := hj; exfalso; omega
                    | succ nn ih18 =>
                      intro y6 v2 hj hm
                      obtain ⟨j19, j20, j21, j22, j23⟩ := hj
                      refine e_Ok.run (t' := (157, [(0, (1, 275)), (1, (0, w 329 (10000 * a + p))), (2, (0, p)), (4, (0, 36 * a + 16)), (6, (0, y6))], [(0, w 329 (10000 * a + p)), (0, y6)], v2)) 2 rfl ?_
                      refine e_Ok.if2 rfl (fun h24 => ?_) (fun h24 => ?_)
                      · replace h24 : (y6 : Int) ≥ w 329 (10000 * a + p) := h24
                        refine e_Ok.run (t' := (188, [(0, (1, 275)), (1, (0, w 329 (10000 * a + p))), (2, (0, p)), (4, (0, 36 * a + 16)), (6, (0, y6))], [(1, 275), (1, 275)], v2)) 2 rfl ?_
                        refine e_Ok.getf (z := a) rfl (el_o rfl) rfl rfl ((j23 275 98 (by first | exact no_78_0 | (unfold mGo; omega))).trans h98) (by omega) ?_
                        refine e_Ok.callV rfl (by omega) rfl rfl rfl rfl (c_381 (by omega) j20 (mCf.fr hCf (fun c k q => ((j23 c k (by unfold mGo; omega)).trans rfl))) (by omega)) (fun r25 w26 h27 => ?_)
                        obtain ⟨rfl, q28, q28T, q28s⟩ := h27
                        have f29 : e_fr (mMv t a) w w26 := e_fr.trans j19 (e_fr.mono q28 (fun c k q => by first | exact su_78_21 q | (unfold mBe at q; unfold mMv mLv; omega)))
                        show e_Ok 20 elay ecode eI (d + 1) 380 (194, [(0, (1, 275)), (1, (0, w 329 (10000 * a + p))), (2, (0, p)), (4, (0, 36 * a + 16)), (6, (0, y6))], [], w26) _
                        refine e_Ok.run (t' := (195, [(0, (1, 275)), (1, (0, w 329 (10000 * a + p))), (2, (0, p)), (4, (0, 36 * a + 16)), (6, (0, y6))], [(1, 275)], w26)) 1 rfl ?_
                        refine e_Ok.getr (z := 276) rfl (el_o rfl) rfl rfl ((q28 275 0 (by first | exact no_78_1 | (unfold mBe; omega))).trans ((j23 275 0 (by first | exact no_78_0 | (unfold mGo; omega))).trans (e_Has.eq hT rfl))) (by omega) ?_
                        refine e_Ok.run (t' := (202, [(0, (1, 275)), (1, (0, w 329 (10000 * a + p))), (2, (0, p)), (4, (0, 36 * a + 16)), (6, (0, y6))], [(0, 9), (0, 36 * a + 16), (1, 276)], w26)) 2 rfl ?_
                        refine e_Ok.add (z := 36 * a + 25) rfl (by omega) (by omega) ?_
                        refine e_Ok.run (t' := (204, [(0, (1, 275)), (1, (0, w 329 (10000 * a + p))), (2, (0, p)), (4, (0, 36 * a + 16)), (6, (0, y6))], [(1, 275), (0, 36 * a + 25), (1, 276)], w26)) 1 rfl ?_
                        refine e_Ok.getf (z := t) rfl (el_o rfl) rfl rfl ((q28 275 96 (by first | exact no_78_1 | (unfold mBe; omega))).trans ((j23 275 96 (by first | exact no_78_0 | (unfold mGo; omega))).trans h96)) (by omega) ?_
                        refine e_Ok.ast rfl (el_o rfl) rfl rfl (by omega) ?_
                        generalize hw30 : e_up w26 276 (36 * a + 25) t = w30
                        have f31 : e_fr (mMv t a) w w30 := e_fr.up f29 hw30 (by unfold mMv mLv; omega)
                        have hT32 : e_Has mTy w30 := e_Has.upr q28T hw30 (nR_MOVER (a := a) (by omega)) (by omega)
                        refine e_Ok.run (t' := (209, [(0, (1, 275)), (1, (0, w 329 (10000 * a + p))), (2, (0, p)), (4, (0, 36 * a + 16)), (6, (0, y6))], [(1, 275)], w30)) 1 rfl ?_
                        refine e_Ok.getr (z := 276) rfl (el_o rfl) rfl rfl (by rw [← hw30]; exact (e_up_ne _ _ (Or.inl (by omega))).trans ((q28 275 0 (by first | exact no_78_1 | (unfold mBe; omega))).trans ((j23 275 0 (by first | exact no_78_0 | (unfold mGo; omega))).trans (e_Has.eq hT rfl)))) (by omega) ?_
                        refine e_Ok.run (t' := (213, [(0, (1, 275)), (1, (0, w 329 (10000 * a + p))), (2, (0, p)), (4, (0, 36 * a + 16)), (6, (0, y6))], [(1, 275), (1, 276)], w30)) 1 rfl ?_
                        refine e_Ok.getf (z := 1260 * t + 416) rfl (el_o rfl) rfl rfl (by rw [← hw30]; exact (e_up_ne _ _ (Or.inl (by omega))).trans ((q28 275 97 (by first | exact no_78_1 | (unfold mBe; omega))).trans ((j23 275 97 (by first | exact no_78_0 | (unfold mGo; omega))).trans h97))) (by omega) ?_
                        refine e_Ok.run (t' := (217, [(0, (1, 275)), (1, (0, w 329 (10000 * a + p))), (2, (0, p)), (4, (0, 36 * a + 16)), (6, (0, y6))], [(0, 2), (0, 1260 * t + 416), (1, 276)], w30)) 1 rfl ?_
                        refine e_Ok.ast rfl (el_o rfl) rfl rfl (by omega) ?_
                        generalize hw33 : e_up w30 276 (1260 * t + 416) 2 = w33
                        have f34 : e_fr (mMv t a) w w33 := e_fr.up f31 hw33 (by unfold mMv mLv; omega)
                        have hT35 : e_Has mTy w33 := e_Has.upr hT32 hw33 (nR_TSTATE (t := t) (by omega)) (by omega)
                        refine e_Ok.run (t' := (219, [(0, (1, 275)), (1, (0, w 329 (10000 * a + p))), (2, (0, p)), (4, (0, 36 * a + 16)), (6, (0, y6))], [(1, 275)], w33)) 1 rfl ?_
                        refine e_Ok.getr (z := 276) rfl (el_o rfl) rfl rfl (by rw [← hw33]; exact (e_up_ne _ _ (Or.inl (by omega))).trans (by rw [← hw30]; exact (e_up_ne _ _ (Or.inl (by omega))).trans ((q28 275 0 (by first | exact no_78_1 | (unfold mBe; omega))).trans ((j23 275 0 (by first | exact no_78_0 | (unfold mGo; omega))).trans (e_Has.eq hT rfl))))) (by omega) ?_
                        refine e_Ok.run (t' := (223, [(0, (1, 275)), (1, (0, w 329 (10000 * a + p))), (2, (0, p)), (4, (0, 36 * a + 16)), (6, (0, y6))], [(1, 275), (1, 276)], w33)) 1 rfl ?_
                        refine e_Ok.getf (z := 1260 * t + 416) rfl (el_o rfl) rfl rfl (by rw [← hw33]; exact (e_up_ne _ _ (Or.inl (by omega))).trans (by rw [← hw30]; exact (e_up_ne _ _ (Or.inl (by omega))).trans ((q28 275 97 (by first | exact no_78_1 | (unfold mBe; omega))).trans ((j23 275 97 (by first | exact no_78_0 | (unfold mGo; omega))).trans h97)))) (by omega) ?_
                        refine e_Ok.run (t' := (228, [(0, (1, 275)), (1, (0, w 329 (10000 * a + p))), (2, (0, p)), (4, (0, 36 * a + 16)), (6, (0, y6))], [(0, 7), (0, 1260 * t + 416), (1, 276)], w33)) 1 rfl ?_
                        refine e_Ok.add (z := 1260 * t + 423) rfl (by omega) (by omega) ?_
                        refine e_Ok.run (t' := (230, [(0, (1, 275)), (1, (0, w 329 (10000 * a + p))), (2, (0, p)), (4, (0, 36 * a + 16)), (6, (0, y6))], [(0, 0), (0, 1260 * t + 423), (1, 276)], w33)) 1 rfl ?_
                        refine e_Ok.ast rfl (el_o rfl) rfl rfl (by omega) ?_
                        generalize hw36 : e_up w33 276 (1260 * t + 423) 0 = w36
                        have f37 : e_fr (mMv t a) w w36 := e_fr.up f34 hw36 (by unfold mMv mLv; omega)
                        have hT38 : e_Has mTy w36 := e_Has.upr hT35 hw36 (nR_BROKEN (t := t) (by omega)) (by omega)
                        refine e_Ok.run (t' := (233, [(0, (1, 275)), (1, (0, w 329 (10000 * a + p))), (2, (0, p)), (4, (0, 36 * a + 16)), (6, (0, y6))], [(0, 1), (1, 275)], w36)) 2 rfl ?_
                        refine e_Ok.putb rfl (el_o rfl) rfl rfl (by omega) ?_
                        generalize hw40 : e_up w36 275 100 1 = w40
                        have f41 : e_fr (mMv t a) w w40 := e_fr.up f37 hw40 (by unfold mMv mLv; omega)
                        have hT42 : e_Has mTy w40 := e_Has.ups hT38 hw40 rfl
                        refine e_Ok.run (t' := (239, [(0, (1, 275)), (1, (0, w 329 (10000 * a + p))), (2, (0, p)), (4, (0, 36 * a + 16)), (6, (0, y6))], [(0, 1), (0, p), (1, 275)], w40)) 3 rfl ?_
                        refine e_Ok.add (z := p + 1) rfl (by omega) (by omega) ?_
                        refine e_Ok.callV rfl (by omega) rfl rfl rfl rfl (c_365 (by omega) hT42 (by omega) (by rw [← hw40]; exact (e_up_ne _ _ (Or.inr (by omega))).trans (by rw [← hw36]; exact (e_up_ne _ _ (Or.inl (by omega))).trans (by rw [← hw33]; exact (e_up_ne _ _ (Or.inl (by omega))).trans (by rw [← hw30]; exact (e_up_ne _ _ (Or.inl (by omega))).trans ((q28 275 97 (by first | exact no_78_1 | (unfold mBe; omega))).trans ((j23 275 97 (by first | exact no_78_0 | (unfold mGo; omega))).trans h97)))))) (f := g + 1) (z := 1260 * t + 2 * g + 436) (by rw [← hw40]; exact (e_up_ne _ _ (Or.inl (by omega))).trans (by rw [← hw36]; exact (e_up_ne _ _ (Or.inr (by omega))).trans (by rw [← hw33]; exact (e_up_ne _ _ (Or.inr (by omega))).trans (by rw [← hw30]; exact (e_up_ne _ _ (Or.inr (by omega))).trans ((q28 276 (1260 * t + 428) (by first | exact no_78_2 (by omega) (by omega) | (unfold mBe; omega))).trans ((j23 276 (1260 * t + 428) (by first | exact no_78_3 (by omega) (by omega) | (unfold mGo; omega))).trans hF)))))) (by omega) (by omega)) (fun r43 w44 h45 => ?_)
                        obtain ⟨rfl, hw44⟩ := h45
                        have f46 : e_fr (mMv t a) w w44 := e_fr.up f41 hw44 (by unfold mMv mLv; omega)
                        have hT47 : e_Has mTy w44 := e_Has.upr hT42 hw44 (nR_FRg t (g) (by omega) (by omega) (by omega)) (by omega)
                        show e_Ok 20 elay ecode eI (d + 1) 380 (243, [(0, (1, 275)), (1, (0, w 329 (10000 * a + p))), (2, (0, p)), (4, (0, 36 * a + 16)), (6, (0, y6))], [], w44) _
                        refine e_Ok.rets rfl rfl ?_
                        have e48 : w44 276 5 = w 276 5 := (by rw [← hw44]; exact (e_up_ne _ _ (Or.inr (by omega))).trans (by rw [← hw40]; exact (e_up_ne _ _ (Or.inl (by omega))).trans (by rw [← hw36]; exact (e_up_ne _ _ (Or.inr (by omega))).trans (by rw [← hw33]; exact (e_up_ne _ _ (Or.inr (by omega))).trans (by rw [← hw30]; exact (e_up_ne _ _ (Or.inr (by omega))).trans ((q28 276 5 (by first | exact no_78_4 (by omega) | (unfold mBe; omega))).trans ((j23 276 5 (by first | exact no_78_5 (by omega) | (unfold mGo; omega))).trans rfl)))))))
                        have hmo : mMo w44 (-1) := mMo.begin hMo (Or.inl rfl) (e_Has.mo hT) ha (by omega) (by omega) (fun c k q q2 => f46 c k (moK_mv ht ha q q2)) (fun b g1 g2 g3 => ⟨(by rw [← hw44]; exact (e_up_ne _ _ (Or.inr (by omega))).trans (by rw [← hw40]; exact (e_up_ne _ _ (Or.inl (by omega))).trans (by rw [← hw36]; exact (e_up_ne _ _ (Or.inr (by omega))).trans (by rw [← hw33]; exact (e_up_ne _ _ (Or.inr (by omega))).trans (by rw [← hw30]; exact (e_up_ne _ _ (Or.inr (by omega))).trans ((q28 276 (36 * b + 16) (by unfold mBe; omega)).trans ((j23 276 (36 * b + 16) (by first | exact no_78_6 (by omega) (by omega) | (unfold mGo; omega))).trans rfl))))))), (by rw [← hw44]; exact (e_up_ne _ _ (Or.inr (by omega))).trans (by rw [← hw40]; exact (e_up_ne _ _ (Or.inl (by omega))).trans (by rw [← hw36]; exact (e_up_ne _ _ (Or.inr (by omega))).trans (by rw [← hw33]; exact (e_up_ne _ _ (Or.inr (by omega))).trans (by rw [← hw30]; exact (e_up_ne _ _ (Or.inr (by omega))).trans ((q28 276 (36 * b + 22) (by first | exact no_78_7 (by omega) (by omega) | (unfold mBe; omega))).trans ((j23 276 (36 * b + 22) (by first | exact no_78_8 (by omega) (by omega) | (unfold mGo; omega))).trans rfl)))))))⟩) (by rw [← hw44]; exact (e_up_ne _ _ (Or.inr (by omega))).trans (by rw [← hw40]; exact (e_up_ne _ _ (Or.inl (by omega))).trans (by rw [← hw36]; exact (e_up_ne _ _ (Or.inr (by omega))).trans (by rw [← hw33]; exact (e_up_ne _ _ (Or.inr (by omega))).trans (by rw [← hw30]; exact (e_up_ne _ _ (Or.inr (by omega))).trans q28s))))) (fun j g1 g2 => by rw [show w44 276 (36 * a + j + 44) = w 345 j from Eq.trans (by rw [← hw44]; exact (e_up_ne _ _ (Or.inr (by omega))).trans (by rw [← hw40]; exact (e_up_ne _ _ (Or.inl (by omega))).trans (by rw [← hw36]; exact (e_up_ne _ _ (Or.inr (by omega))).trans (by rw [← hw33]; exact (e_up_ne _ _ (Or.inr (by omega))).trans (by rw [← hw30]; exact (e_up_ne _ _ (Or.inr (by omega))).trans ((q28 276 (36 * a + j + 44) (by first | exact no_78_9 (by omega) (by omega) | (unfold mBe; omega))).trans rfl)))))) (j22 j g1 (by omega))]; exact hfit.2 j g1 (by omega)) (fun e => by have e1 := ((hMo.2.1 a ha.1 ha.2).2 (Eq.trans (Eq.symm (by rw [← hw44]; exact (e_up_ne _ _ (Or.inr (by omega))).trans (by rw [← hw40]; exact (e_up_ne _ _ (Or.inl (by omega))).trans (by rw [← hw36]; exact (e_up_ne _ _ (Or.inr (by omega))).trans (by rw [← hw33]; exact (e_up_ne _ _ (Or.inr (by omega))).trans (by rw [← hw30]; exact (e_up_ne _ _ (Or.inr (by omega))).trans ((q28 276 (36 * a + 22) (by first | exact no_78_10 (by omega) | (unfold mBe; omega))).trans ((j23 276 (36 * a + 22) (by first | exact no_78_11 (by omega) | (unfold mGo; omega))).trans rfl)))))))) e)).1; exfalso; omega)
                        have hrn := runOk.fr (w' := w44) (fun c k q1 q2 => (by rw [← hw44]; exact (e_up_ne _ _ (Or.inl (by omega))).trans (by rw [← hw40]; exact (e_up_ne _ _ (Or.inl (by omega))).trans (by rw [← hw36]; exact (e_up_ne _ _ (Or.inl (by omega))).trans (by rw [← hw33]; exact (e_up_ne _ _ (Or.inl (by omega))).trans (by rw [← hw30]; exact (e_up_ne _ _ (Or.inl (by omega))).trans ((q28 c k (by unfold mBe; omega)).trans ((j23 c k (by unfold mGo; omega)).trans rfl)))))))) (fun i q1 q2 => ⟨(by rw [← hw44]; exact (e_up_ne _ _ (Or.inr (by omega))).trans (by rw [← hw40]; exact (e_up_ne _ _ (Or.inl (by omega))).trans (by rw [← hw36]; exact (e_up_ne _ _ (Or.inr (by omega))).trans (by rw [← hw33]; exact (e_up_ne _ _ (Or.inr (by omega))).trans (by rw [← hw30]; exact (e_up_ne _ _ (Or.inr (by omega))).trans ((q28 276 (1260 * t + 2 * i + 436) (by first | exact no_78_12 (by omega) (by omega) (by omega) | (unfold mBe; omega))).trans ((j23 276 (1260 * t + 2 * i + 436) (by first | exact no_78_13 (by omega) (by omega) (by omega) | (unfold mGo; omega))).trans rfl))))))), (by rw [← hw44]; exact (e_up_ne _ _ (Or.inr (by omega))).trans (by rw [← hw40]; exact (e_up_ne _ _ (Or.inl (by omega))).trans (by rw [← hw36]; exact (e_up_ne _ _ (Or.inr (by omega))).trans (by rw [← hw33]; exact (e_up_ne _ _ (Or.inr (by omega))).trans (by rw [← hw30]; exact (e_up_ne _ _ (Or.inr (by omega))).trans ((q28 276 (1260 * t + 2 * i + 439) (by first | exact no_78_14 (by omega) (by omega) (by omega) | (unfold mBe; omega))).trans ((j23 276 (1260 * t + 2 * i + 439) (by first | exact no_78_15 (by omega) (by omega) (by omega) | (unfold mGo; omega))).trans rfl)))))))⟩) (by rw [← hw44]; exact (e_up_ne _ _ (Or.inr (by omega))).trans (by rw [← hw40]; exact (e_up_ne _ _ (Or.inl (by omega))).trans (by rw [← hw36]; exact (e_up_ne _ _ (Or.inr (by omega))).trans (by rw [← hw33]; exact (e_up_ne _ _ (Or.inr (by omega))).trans (by rw [← hw30]; exact (e_up_ne _ _ (Or.inr (by omega))).trans ((q28 276 (1260 * t + 428) (by first | exact no_78_2 (by omega) (by omega) | (unfold mBe; omega))).trans ((j23 276 (1260 * t + 428) (by first | exact no_78_3 (by omega) (by omega) | (unfold mGo; omega))).trans rfl))))))) (by rw [← hw44]; exact (e_up_ne _ _ (Or.inr (by omega))).trans (by rw [← hw40]; exact (e_up_ne _ _ (Or.inl (by omega))).trans (by rw [← hw36]; exact (e_up_ne _ _ (Or.inr (by omega))).trans (by rw [← hw33]; exact (e_up_ne _ _ (Or.inr (by omega))).trans (by rw [← hw30]; exact (e_up_ne _ _ (Or.inr (by omega))).trans ((q28 276 (1260 * t + 429) (by first | exact no_78_16 (by omega) (by omega) | (unfold mBe; omega))).trans ((j23 276 (1260 * t + 429) (by first | exact no_78_17 (by omega) (by omega) | (unfold mGo; omega))).trans rfl))))))) (fun k q1 q2 => (by rw [← hw44]; exact (e_up_ne _ _ (Or.inr (by omega))).trans (by rw [← hw40]; exact (e_up_ne _ _ (Or.inl (by omega))).trans (by rw [← hw36]; exact (e_up_ne _ _ (Or.inr (by omega))).trans (by rw [← hw33]; exact (e_up_ne _ _ (Or.inr (by omega))).trans (by rw [← hw30]; exact (e_up_ne _ _ (Or.inr (by omega))).trans ((q28 276 (1260 * t + k + 476) (by unfold mBe; omega)).trans ((j23 276 (1260 * t + k + 476) (by unfold mGo; omega)).trans rfl)))))))) (by omega) hru
                        have erg : w44 330 (10000 * a + (p + 1)) = w 330 (10000 * a + p) := by rw [show 10000 * a + (p + 1) = 10000 * a + p + 1 by omega]; exact Eq.trans (by rw [← hw44]; exact (e_up_ne _ _ (Or.inl (by omega))).trans (by rw [← hw40]; exact (e_up_ne _ _ (Or.inl (by omega))).trans (by rw [← hw36]; exact (e_up_ne _ _ (Or.inl (by omega))).trans (by rw [← hw33]; exact (e_up_ne _ _ (Or.inl (by omega))).trans (by rw [← hw30]; exact (e_up_ne _ _ (Or.inl (by omega))).trans ((q28 330 (10000 * a + p + 1) (by first | exact no_78_18 | (unfold mBe; omega))).trans ((j23 330 (10000 * a + p + 1) (by first | exact no_78_19 | (unfold mGo; omega))).trans rfl))))))) k8.1.2
                        exact ⟨rfl, f46, hT47, by omega, hmo, Or.inr ⟨(by rw [← hw44]; exact (e_up_ne _ _ (Or.inl (by omega))).trans (by rw [← hw40]; exact e_up_eq _ _ _ _)), (by rw [← hw44]; exact (e_up_ne _ _ (Or.inr (by omega))).trans (by rw [← hw40]; exact (e_up_ne _ _ (Or.inl (by omega))).trans (by rw [← hw36]; exact (e_up_ne _ _ (Or.inr (by omega))).trans (by rw [← hw33]; exact e_up_eq _ _ _ _)))), runOk.at hrn (by omega) (by rw [← hw44]; exact e_up_eq _ _ _ _) erg, by omega⟩⟩
                      · replace h24 : (y6 : Int) < w 329 (10000 * a + p) := by have q : ¬ ((y6 : Int) ≥ w 329 (10000 * a + p)) := h24; omega
                        have hgl := hfit.2 y6 (by omega) (by omega)
                        have hb288 := e_Has.get hT (c := 288) (k := 6 * a + y6) (lo := -100000) (hi := 0) rfl (by decide)
                        have hb289 := e_Has.get hT (c := 289) (k := 6 * a + y6) (lo := 0) (hi := 100000) rfl (by decide)
                        refine e_Ok.run (t' := (161, [(0, (1, 275)), (1, (0, w 329 (10000 * a + p))), (2, (0, p)), (4, (0, 36 * a + 16)), (6, (0, y6))], [(1, 275)], v2)) 1 rfl ?_
                        refine e_Ok.getr (z := 276) rfl (el_o rfl) rfl rfl ((j23 275 0 (by first | exact no_78_0 | (unfold mGo; omega))).trans (e_Has.eq hT rfl)) (by omega) ?_
                        refine e_Ok.run (t' := (168, [(0, (1, 275)), (1, (0, w 329 (10000 * a + p))), (2, (0, p)), (4, (0, 36 * a + 16)), (6, (0, y6))], [(0, 28), (0, 36 * a + 16), (1, 276)], v2)) 2 rfl ?_
                        refine e_Ok.add (z := 36 * a + 44) rfl (by omega) (by omega) ?_
                        refine e_Ok.run (t' := (171, [(0, (1, 275)), (1, (0, w 329 (10000 * a + p))), (2, (0, p)), (4, (0, 36 * a + 16)), (6, (0, y6))], [(0, y6), (0, 36 * a + 44), (1, 276)], v2)) 1 rfl ?_
                        refine e_Ok.add (z := 36 * a + y6 + 44) rfl (by omega) (by omega) ?_
                        refine e_Ok.run (t' := (173, [(0, (1, 275)), (1, (0, w 329 (10000 * a + p))), (2, (0, p)), (4, (0, 36 * a + 16)), (6, (0, y6))], [(1, 275), (0, 36 * a + y6 + 44), (1, 276)], v2)) 1 rfl ?_
                        refine e_Ok.getr (z := 345) rfl (el_o rfl) rfl rfl ((j23 275 101 (by first | exact no_78_0 | (unfold mGo; omega))).trans (e_Has.eq hT rfl)) (by omega) ?_
                        refine e_Ok.run (t' := (178, [(0, (1, 275)), (1, (0, w 329 (10000 * a + p))), (2, (0, p)), (4, (0, 36 * a + 16)), (6, (0, y6))], [(0, y6), (1, 345), (0, 36 * a + y6 + 44), (1, 276)], v2)) 1 rfl ?_
                        have h49 := (hst y6 (by omega) (by omega))
                        refine e_Ok.ald (z := w 345 y6) rfl (el_o rfl) rfl (by omega) ((j23 345 y6 (by first | exact no_78_20 | (unfold mGo; omega))).trans rfl) (by omega) ?_
                        refine e_Ok.ast rfl (el_o rfl) rfl rfl (by omega) ?_
                        generalize hw50 : e_up v2 276 (36 * a + y6 + 44) (w 345 y6) = w50
                        have f51 : e_fr (mMv t a) w w50 := e_fr.up j19 hw50 (by unfold mMv mLv; omega)
                        have hT52 : e_Has mTy w50 := e_Has.upr j20 hw50 (nR_GOAL (a := a) (j := y6) (by omega) (by omega)) (by omega)
                        refine e_Ok.inc (z := y6 + 1) rfl rfl (by omega) (by omega) ?_
                        show e_Ok 20 elay ecode eI (d + 1) 380 (183, [(6, (0, y6 + 1)), (0, (1, 275)), (1, (0, w 329 (10000 * a + p))), (2, (0, p)), (4, (0, 36 * a + 16))], [], w50) _
                        refine e_Ok.run (t' := (154, [(6, (0, y6 + 1)), (0, (1, 275)), (1, (0, w 329 (10000 * a + p))), (2, (0, p)), (4, (0, 36 * a + 16))], [], w50)) 1 rfl ?_
                        refine e_Ok.sub eAlk (e_sub_of rfl ?_) (ih18 (y6 + 1) w50 ⟨f51, hT52, by omega, (fun j g1 g2 => Decidable.byCases (p := j = y6) (fun e => by rw [e, ← hw50]; exact e_up_eq _ _ _ _) (fun e => Eq.trans (by rw [← hw50]; exact e_up_ne _ _ (Or.inr (by omega))) (j22 j g1 (by omega)))), (e_fr.up j23 hw50 (by unfold mGo; omega))⟩ (by omega))
                        exact ⟨rfl, rfl, rfl, rfl, rfl, trivial⟩
                  refine e_Ok.sub eAlk (e_sub_of rfl ?_) (hL17 (7 + 1 : Int).toNat 0 w ⟨(e_fr.refl w), hT, by omega, (fun j g1 g2 => by omega), (e_fr.refl w)⟩ (by omega))
                  exact ⟨rfl, rfl, rfl, rfl, rfl, trivial⟩
                · replace h16 : (0 : Int) ≠ 0 := by have q : ¬ ((0 : Int) = 0) := h16; omega
                  exfalso; omega
              · replace h15 : (w 276 1 : Int) = 0 := by have q : ¬ ((w 276 1 : Int) ≠ 0) := h15; omega
                refine e_Ok.run (t' := (141, [(5, (0, 5)), (4, (0, 36 * a + 16)), (0, (1, 275)), (1, (0, w 329 (10000 * a + p))), (2, (0, p)), (3, (0, y3))], [(0, 5)], w)) 4 rfl ?_
                refine e_Ok.if1 rfl (fun h53 => ?_) (fun h53 => ?_)
                · replace h53 : (5 : Int) = 0 := h53
                  exfalso; omega
                · replace h53 : (5 : Int) ≠ 0 := by have q : ¬ ((5 : Int) = 0) := h53; omega
                  refine e_Ok.run (t' := (147, [(5, (0, 5)), (4, (0, 36 * a + 16)), (0, (1, 275)), (1, (0, w 329 (10000 * a + p))), (2, (0, p)), (3, (0, y3))], [(0, 5), (1, 275)], w)) 2 rfl ?_
                  refine e_Ok.callV rfl (by omega) rfl rfl rfl rfl (c_369 (by omega) hT (by omega) (by omega) h96 h97 h98 hC hP (by omega) (by omega)) (fun r54 w55 h56 => ?_)
                  obtain ⟨rfl, ⟨q57, q57S⟩, q57T, q57n, q57d, q57c⟩ := h56
                  have f58 : e_fr (mMv t a) w w55 := e_fr.trans (e_fr.refl w) (e_fr.mono q57 (fun c k q => by exact Or.inl q))
                  show e_Ok 20 elay ecode eI (d + 1) 380 (150, [(5, (0, 5)), (4, (0, 36 * a + 16)), (0, (1, 275)), (1, (0, w 329 (10000 * a + p))), (2, (0, p)), (3, (0, y3))], [], w55) _
                  refine e_Ok.rets rfl rfl ?_
                  exact ⟨rfl, f58, q57T, by omega, mMo.rel hMo (e_Has.mo hT) hCf (sRel.trans sRel.refl q57S) (fun c k q => q57 c k (moK_lv ht q)), Or.inl ⟨q57d, q57c⟩⟩
            · replace h13 : (w 276 (36 * a + 16) : Int) ≠ 0 := by have q : ¬ ((w 276 (36 * a + 16) : Int) = 0) := h13; omega
              refine e_Ok.run (t' := (141, [(5, (0, 4)), (4, (0, 36 * a + 16)), (0, (1, 275)), (1, (0, w 329 (10000 * a + p))), (2, (0, p)), (3, (0, y3))], [(0, 4)], w)) 4 rfl ?_
              refine e_Ok.if1 rfl (fun h59 => ?_) (fun h59 => ?_)
              · replace h59 : (4 : Int) = 0 := h59
                exfalso; omega
              · replace h59 : (4 : Int) ≠ 0 := by have q : ¬ ((4 : Int) = 0) := h59; omega
                refine e_Ok.run (t' := (147, [(5, (0, 4)), (4, (0, 36 * a + 16)), (0, (1, 275)), (1, (0, w 329 (10000 * a + p))), (2, (0, p)), (3, (0, y3))], [(0, 4), (1, 275)], w)) 2 rfl ?_
                refine e_Ok.callV rfl (by omega) rfl rfl rfl rfl (c_369 (by omega) hT (by omega) (by omega) h96 h97 h98 hC hP (by omega) (by omega)) (fun r60 w61 h62 => ?_)
                obtain ⟨rfl, ⟨q63, q63S⟩, q63T, q63n, q63d, q63c⟩ := h62
                have f64 : e_fr (mMv t a) w w61 := e_fr.trans (e_fr.refl w) (e_fr.mono q63 (fun c k q => by exact Or.inl q))
                show e_Ok 20 elay ecode eI (d + 1) 380 (150, [(5, (0, 4)), (4, (0, 36 * a + 16)), (0, (1, 275)), (1, (0, w 329 (10000 * a + p))), (2, (0, p)), (3, (0, y3))], [], w61) _
                refine e_Ok.rets rfl rfl ?_
                exact ⟨rfl, f64, q63T, by omega, mMo.rel hMo (e_Has.mo hT) hCf (sRel.trans sRel.refl q63S) (fun c k q => q63 c k (moK_lv ht q)), Or.inl ⟨q63d, q63c⟩⟩
          · replace h11 : (y3 : Int) = 0 := by have q : ¬ ((y3 : Int) ≠ 0) := h11; omega
            refine e_Ok.run (t' := (141, [(5, (0, 3)), (4, (0, 36 * a + 16)), (0, (1, 275)), (1, (0, w 329 (10000 * a + p))), (2, (0, p)), (3, (0, y3))], [(0, 3)], w)) 4 rfl ?_
            refine e_Ok.if1 rfl (fun h65 => ?_) (fun h65 => ?_)
            · replace h65 : (3 : Int) = 0 := h65
              exfalso; omega
            · replace h65 : (3 : Int) ≠ 0 := by have q : ¬ ((3 : Int) = 0) := h65; omega
              refine e_Ok.run (t' := (147, [(5, (0, 3)), (4, (0, 36 * a + 16)), (0, (1, 275)), (1, (0, w 329 (10000 * a + p))), (2, (0, p)), (3, (0, y3))], [(0, 3), (1, 275)], w)) 2 rfl ?_
              refine e_Ok.callV rfl (by omega) rfl rfl rfl rfl (c_369 (by omega) hT (by omega) (by omega) h96 h97 h98 hC hP (by omega) (by omega)) (fun r66 w67 h68 => ?_)
              obtain ⟨rfl, ⟨q69, q69S⟩, q69T, q69n, q69d, q69c⟩ := h68
              have f70 : e_fr (mMv t a) w w67 := e_fr.trans (e_fr.refl w) (e_fr.mono q69 (fun c k q => by exact Or.inl q))
              show e_Ok 20 elay ecode eI (d + 1) 380 (150, [(5, (0, 3)), (4, (0, 36 * a + 16)), (0, (1, 275)), (1, (0, w 329 (10000 * a + p))), (2, (0, p)), (3, (0, y3))], [], w67) _
              refine e_Ok.rets rfl rfl ?_
              exact ⟨rfl, f70, q69T, by omega, mMo.rel hMo (e_Has.mo hT) hCf (sRel.trans sRel.refl q69S) (fun c k q => q69 c k (moK_lv ht q)), Or.inl ⟨q69d, q69c⟩⟩
        · replace h7 : (y4 : Int) < w 286 a := by have q : ¬ ((y4 : Int) ≥ w 286 a) := h7; omega
          refine e_Ok.run (t' := (37, [(0, (1, 275)), (1, (0, w 329 (10000 * a + p))), (2, (0, p)), (3, (0, y3)), (4, (0, y4))], [(0, y3)], w)) 1 rfl ?_
          refine e_Ok.if1 rfl (fun h71 => ?_) (fun h71 => ?_)
          · replace h71 : (y3 : Int) = 0 := h71
            refine e_Ok.run (t' := (91, [(0, (1, 275)), (1, (0, w 329 (10000 * a + p))), (2, (0, p)), (3, (0, y3)), (4, (0, y4))], [(1, 275)], w)) 1 rfl ?_
            refine e_Ok.getf (z := a) rfl (el_o rfl) rfl rfl h98 (by omega) ?_
            refine e_Ok.callS rfl (by omega) rfl rfl (c_268 (by omega)) (fun r72 w73 h74 => ?_)
            obtain ⟨rfl, rfl⟩ := h74
            show e_Ok 20 elay ecode eI (d + 1) 380 (97, [(0, (1, 275)), (1, (0, w 329 (10000 * a + p))), (2, (0, p)), (3, (0, y3)), (4, (0, y4))], [(0, 36 * a + 16)], w) _
            refine e_Ok.run (t' := (100, [(4, (0, 36 * a + 16)), (0, (1, 275)), (1, (0, w 329 (10000 * a + p))), (2, (0, p)), (3, (0, y3))], [(0, y3)], w)) 2 rfl ?_
            refine e_Ok.if1 rfl (fun h75 => ?_) (fun h75 => ?_)
            · replace h75 : (y3 : Int) ≠ 0 := h75
              exfalso; omega
            · replace h75 : (y3 : Int) = 0 := by have q : ¬ ((y3 : Int) ≠ 0) := h75; omega
              refine e_Ok.run (t' := (141, [(5, (0, 3)), (4, (0, 36 * a + 16)), (0, (1, 275)), (1, (0, w 329 (10000 * a + p))), (2, (0, p)), (3, (0, y3))], [(0, 3)], w)) 4 rfl ?_
              refine e_Ok.if1 rfl (fun h76 => ?_) (fun h76 => ?_)
              · replace h76 : (3 : Int) = 0 := h76
                exfalso; omega
              · replace h76 : (3 : Int) ≠ 0 := by have q : ¬ ((3 : Int) = 0) := h76; omega
                refine e_Ok.run (t' := (147, [(5, (0, 3)), (4, (0, 36 * a + 16)), (0, (1, 275)), (1, (0, w 329 (10000 * a + p))), (2, (0, p)), (3, (0, y3))], [(0, 3), (1, 275)], w)) 2 rfl ?_
                refine e_Ok.callV rfl (by omega) rfl rfl rfl rfl (c_369 (by omega) hT (by omega) (by omega) h96 h97 h98 hC hP (by omega) (by omega)) (fun r77 w78 h79 => ?_)
                obtain ⟨rfl, ⟨q80, q80S⟩, q80T, q80n, q80d, q80c⟩ := h79
                have f81 : e_fr (mMv t a) w w78 := e_fr.trans (e_fr.refl w) (e_fr.mono q80 (fun c k q => by exact Or.inl q))
                show e_Ok 20 elay ecode eI (d + 1) 380 (150, [(5, (0, 3)), (4, (0, 36 * a + 16)), (0, (1, 275)), (1, (0, w 329 (10000 * a + p))), (2, (0, p)), (3, (0, y3))], [], w78) _
                refine e_Ok.rets rfl rfl ?_
                exact ⟨rfl, f81, q80T, by omega, mMo.rel hMo (e_Has.mo hT) hCf (sRel.trans sRel.refl q80S) (fun c k q => q80 c k (moK_lv ht q)), Or.inl ⟨q80d, q80c⟩⟩
          · replace h71 : (y3 : Int) ≠ 0 := by have q : ¬ ((y3 : Int) = 0) := h71; omega
            have hfi := j6 (by omega)
            refine e_Ok.run (t' := (41, [(0, (1, 275)), (1, (0, w 329 (10000 * a + p))), (2, (0, p)), (3, (0, y3)), (4, (0, y4))], [(1, 275)], w)) 1 rfl ?_
            refine e_Ok.getr (z := 345) rfl (el_o rfl) rfl rfl (e_Has.eq hT rfl) (by omega) ?_
            refine e_Ok.run (t' := (46, [(0, (1, 275)), (1, (0, w 329 (10000 * a + p))), (2, (0, p)), (3, (0, y3)), (4, (0, y4))], [(0, y4), (1, 345)], w)) 1 rfl ?_
            have h82 := (hst y4 (by omega) (by omega))
            refine e_Ok.ald (z := w 345 y4) rfl (el_o rfl) rfl (by omega) rfl (by omega) ?_
            refine e_Ok.run (t' := (49, [(0, (1, 275)), (1, (0, w 329 (10000 * a + p))), (2, (0, p)), (3, (0, y3)), (4, (0, y4))], [(1, 275), (4, w 345 y4)], w)) 2 rfl ?_
            refine e_Ok.getr (z := 288) rfl (el_o rfl) rfl rfl (e_Has.eq hT rfl) (by omega) ?_
            refine e_Ok.run (t' := (55, [(0, (1, 275)), (1, (0, w 329 (10000 * a + p))), (2, (0, p)), (3, (0, y3)), (4, (0, y4))], [(1, 275), (0, 6), (1, 288), (4, w 345 y4)], w)) 2 rfl ?_
            refine e_Ok.getf (z := a) rfl (el_o rfl) rfl rfl h98 (by omega) ?_
            refine e_Ok.mul (z := 6 * a) rfl (by omega) (by omega) ?_
            refine e_Ok.run (t' := (61, [(0, (1, 275)), (1, (0, w 329 (10000 * a + p))), (2, (0, p)), (3, (0, y3)), (4, (0, y4))], [(0, y4), (0, 6 * a), (1, 288), (4, w 345 y4)], w)) 1 rfl ?_
            refine e_Ok.add (z := 6 * a + y4) rfl (by omega) (by omega) ?_
            have h83 := (e_Has.get hT (c := 288) (k := 6 * a + y4) (lo := (-100000)) (hi := 0) rfl (by decide))
            refine e_Ok.ald (z := w 288 (6 * a + y4)) rfl (el_o rfl) rfl (by omega) rfl (by omega) ?_
            refine e_Ok.run (t' := (65, [(0, (1, 275)), (1, (0, w 329 (10000 * a + p))), (2, (0, p)), (3, (0, y3)), (4, (0, y4))], [(1, 275), (4, w 288 (6 * a + y4)), (4, w 345 y4)], w)) 2 rfl ?_
            refine e_Ok.getr (z := 289) rfl (el_o rfl) rfl rfl (e_Has.eq hT rfl) (by omega) ?_
            refine e_Ok.run (t' := (71, [(0, (1, 275)), (1, (0, w 329 (10000 * a + p))), (2, (0, p)), (3, (0, y3)), (4, (0, y4))], [(1, 275), (0, 6), (1, 289), (4, w 288 (6 * a + y4)), (4, w 345 y4)], w)) 2 rfl ?_
            refine e_Ok.getf (z := a) rfl (el_o rfl) rfl rfl h98 (by omega) ?_
            refine e_Ok.mul (z := 6 * a) rfl (by omega) (by omega) ?_
            refine e_Ok.run (t' := (77, [(0, (1, 275)), (1, (0, w 329 (10000 * a + p))), (2, (0, p)), (3, (0, y3)), (4, (0, y4))], [(0, y4), (0, 6 * a), (1, 289), (4, w 288 (6 * a + y4)), (4, w 345 y4)], w)) 1 rfl ?_
            refine e_Ok.add (z := 6 * a + y4) rfl (by omega) (by omega) ?_
            have h84 := (e_Has.get hT (c := 289) (k := 6 * a + y4) (lo := 0) (hi := 100000) rfl (by decide))
            refine e_Ok.ald (z := w 289 (6 * a + y4)) rfl (el_o rfl) rfl (by omega) rfl (by omega) ?_
            refine e_Ok.run (t' := (80, [(0, (1, 275)), (1, (0, w 329 (10000 * a + p))), (2, (0, p)), (3, (0, y3)), (4, (0, y4))], [(4, w 289 (6 * a + y4)), (4, w 288 (6 * a + y4)), (4, w 345 y4)], w)) 1 rfl ?_
            refine e_Ok.callS rfl (by omega) rfl rfl (c_266) (fun r85 w86 h87 => ?_)
            obtain ⟨z88, rfl, rfl, q89⟩ := h87
            obtain ⟨rfl, q89⟩ | ⟨rfl, q89⟩ := q89
            · show e_Ok 20 elay ecode eI (d + 1) 380 (83, [(0, (1, 275)), (1, (0, w 329 (10000 * a + p))), (2, (0, p)), (3, (0, y3)), (4, (0, y4))], [(0, 1)], w) _
              refine e_Ok.run (t' := (84, [(3, (0, 1)), (0, (1, 275)), (1, (0, w 329 (10000 * a + p))), (2, (0, p)), (4, (0, y4))], [], w)) 1 rfl ?_
              refine e_Ok.inc (z := y4 + 1) rfl rfl (by omega) (by omega) ?_
              show e_Ok 20 elay ecode eI (d + 1) 380 (87, [(4, (0, y4 + 1)), (3, (0, 1)), (0, (1, 275)), (1, (0, w 329 (10000 * a + p))), (2, (0, p))], [], w) _
              refine e_Ok.run (t' := (22, [(4, (0, y4 + 1)), (3, (0, 1)), (0, (1, 275)), (1, (0, w 329 (10000 * a + p))), (2, (0, p))], [], w)) 1 rfl ?_
              refine e_Ok.sub eAlk (e_sub_of rfl ?_) (ih3 1 (y4 + 1) ⟨by omega, by omega, (fun _ => ⟨hfi.1, fun j g1 g2 => Decidable.byCases (p := j = y4) (fun e => by rw [e]; omega) (fun e => hfi.2 j g1 (by omega))⟩)⟩ (by omega))
              exact ⟨rfl, rfl, rfl, rfl, rfl, trivial⟩
            · show e_Ok 20 elay ecode eI (d + 1) 380 (83, [(0, (1, 275)), (1, (0, w 329 (10000 * a + p))), (2, (0, p)), (3, (0, y3)), (4, (0, y4))], [(0, 0)], w) _
              refine e_Ok.run (t' := (84, [(3, (0, 0)), (0, (1, 275)), (1, (0, w 329 (10000 * a + p))), (2, (0, p)), (4, (0, y4))], [], w)) 1 rfl ?_
              refine e_Ok.inc (z := y4 + 1) rfl rfl (by omega) (by omega) ?_
              show e_Ok 20 elay ecode eI (d + 1) 380 (87, [(4, (0, y4 + 1)), (3, (0, 0)), (0, (1, 275)), (1, (0, w 329 (10000 * a + p))), (2, (0, p))], [], w) _
              refine e_Ok.run (t' := (22, [(4, (0, y4 + 1)), (3, (0, 0)), (0, (1, 275)), (1, (0, w 329 (10000 * a + p))), (2, (0, p))], [], w)) 1 rfl ?_
              refine e_Ok.sub eAlk (e_sub_of rfl ?_) (ih3 0 (y4 + 1) ⟨by omega, by omega, (fun e => by omega)⟩ (by omega))
              exact ⟨rfl, rfl, rfl, rfl, rfl, trivial⟩
    refine e_Ok.sub eAlk (e_sub_of rfl ?_) (hL2 (7 + 1 : Int).toNat 0 0 ⟨by omega, by omega, (fun e => ⟨by omega, fun j g1 g2 => by omega⟩)⟩ (by omega))
    exact ⟨rfl, rfl, rfl, rfl, rfl, trivial⟩
  · replace h1 : (w 329 (10000 * a + p) : Int) = w 286 a := by have q : ¬ ((w 329 (10000 * a + p) : Int) ≠ w 286 a) := h1; omega
    refine e_Ok.run (t' := (22, [(4, (0, 0)), (3, (0, 1)), (0, (1, 275)), (1, (0, w 329 (10000 * a + p))), (2, (0, p))], [], w)) 5 rfl ?_
    have hL90 : ∀ (nn : Nat) (y3 : Int) (y4 : Int), (0 ≤ y3 ∧ y3 ≤ 1) ∧ (0 ≤ y4 ∧ y4 ≤ 6) ∧ ((y3 = 1 → w 329 (10000 * a + p) = w 286 a ∧ ∀ j, 0 ≤ j → j < y4 → w 288 (6 * a + j) ≤ w 345 j ∧ w 345 j ≤ w 289 (6 * a + j))) → 7 - y4 < nn → e_Ok 20 elay ecode eI (d + 1) 380 (22, [(0, (1, 275)), (1, (0, w 329 (10000 * a + p))), (2, (0, p)), (3, (0, y3)), (4, (0, y4))], [], w) (fun r' w' => r' = [] ∧ e_fr (mMv t a) w w' ∧ e_Has mTy w' ∧ (w 276 5 ≤ w' 276 5 ∧ w' 276 5 ≤ w 276 5 + 2) ∧ mMo w' (-1) ∧ ((w' 275 102 = 0 ∧ ((w' 275 100 = 1 ∧ (w' 276 (1260 * t + 416) = 6 ∨ w' 276 (1260 * t + 416) = 7)) ∨ (w' 275 100 = w 275 100 ∧ w' 276 (1260 * t + 416) = w 276 (1260 * t + 416) ∧ w' 276 5 = w 276 5 ∧ ∃ (g' p' : Int) (bs' ow' : Int → Int), g' ≤ g ∧ (g' = g → p < p') ∧ topOk w' a t g' p' n nt nw dl sg pi an br bs' ow' ∧ dl p' = 0 ∧ sg p' = 0))) ∨ (w' 275 100 = 1 ∧ w' 276 (1260 * t + 416) = 2 ∧ topOk w' a t g (p + 1) n nt nw dl sg pi an br bs ow ∧ dl (p + 1) = 0))) := by
      intro nn
      induction nn with
      | zero => intro y3 y4 hj hm; obtain ⟨j92, j93, j94⟩ := hj; exfalso; omega
      | succ nn ih91 =>
        intro y3 y4 hj hm
        obtain ⟨j92, j93, j94⟩ := hj
        refine e_Ok.run (t' := (25, [(0, (1, 275)), (1, (0, w 329 (10000 * a + p))), (2, (0, p)), (3, (0, y3)), (4, (0, y4))], [(1, 275), (0, y4)], w)) 2 rfl ?_
        refine e_Ok.getr (z := 286) rfl (el_o rfl) rfl rfl (e_Has.eq hT rfl) (by omega) ?_
        refine e_Ok.run (t' := (29, [(0, (1, 275)), (1, (0, w 329 (10000 * a + p))), (2, (0, p)), (3, (0, y3)), (4, (0, y4))], [(1, 275), (1, 286), (0, y4)], w)) 1 rfl ?_
        refine e_Ok.getf (z := a) rfl (el_o rfl) rfl rfl h98 (by omega) ?_
        refine e_Ok.ald (z := w 286 a) rfl (el_o rfl) rfl (by omega) rfl (by omega) ?_
        refine e_Ok.if2 rfl (fun h95 => ?_) (fun h95 => ?_)
        · replace h95 : (y4 : Int) ≥ w 286 a := h95
          refine e_Ok.run (t' := (91, [(0, (1, 275)), (1, (0, w 329 (10000 * a + p))), (2, (0, p)), (3, (0, y3)), (4, (0, y4))], [(1, 275)], w)) 1 rfl ?_
          refine e_Ok.getf (z := a) rfl (el_o rfl) rfl rfl h98 (by omega) ?_
          refine e_Ok.callS rfl (by omega) rfl rfl (c_268 (by omega)) (fun r101 w103 h104 => ?_)
          obtain ⟨rfl, rfl⟩ := h104
          show e_Ok 20 elay ecode eI (d + 1) 380 (97, [(0, (1, 275)), (1, (0, w 329 (10000 * a + p))), (2, (0, p)), (3, (0, y3)), (4, (0, y4))], [(0, 36 * a + 16)], w) _
          refine e_Ok.run (t' := (100, [(4, (0, 36 * a + 16)), (0, (1, 275)), (1, (0, w 329 (10000 * a + p))), (2, (0, p)), (3, (0, y3))], [(0, y3)], w)) 2 rfl ?_
          refine e_Ok.if1 rfl (fun h105 => ?_) (fun h105 => ?_)
          · replace h105 : (y3 : Int) ≠ 0 := h105
            refine e_Ok.run (t' := (108, [(4, (0, 36 * a + 16)), (0, (1, 275)), (1, (0, w 329 (10000 * a + p))), (2, (0, p)), (3, (0, y3))], [(1, 275)], w)) 1 rfl ?_
            refine e_Ok.getr (z := 276) rfl (el_o rfl) rfl rfl (e_Has.eq hT rfl) (by omega) ?_
            refine e_Ok.run (t' := (114, [(4, (0, 36 * a + 16)), (0, (1, 275)), (1, (0, w 329 (10000 * a + p))), (2, (0, p)), (3, (0, y3))], [(0, 0), (0, 36 * a + 16), (1, 276)], w)) 2 rfl ?_
            refine e_Ok.add (z := 36 * a + 16) rfl (by omega) (by omega) ?_
            have h106 := (e_Has.get hT (c := 276) (k := 36 * a + 16) (lo := 0) (hi := 2) (nR_STATE (a := a) (by omega)) (by decide))
            refine e_Ok.ald (z := w 276 (36 * a + 16)) rfl (el_o rfl) rfl (by omega) rfl (by omega) ?_
            refine e_Ok.if1 rfl (fun h107 => ?_) (fun h107 => ?_)
            · replace h107 : (w 276 (36 * a + 16) : Int) = 0 := h107
              refine e_Ok.run (t' := (124, [(4, (0, 36 * a + 16)), (0, (1, 275)), (1, (0, w 329 (10000 * a + p))), (2, (0, p)), (3, (0, y3))], [(1, 275)], w)) 1 rfl ?_
              refine e_Ok.getr (z := 276) rfl (el_o rfl) rfl rfl (e_Has.eq hT rfl) (by omega) ?_
              refine e_Ok.run (t' := (128, [(4, (0, 36 * a + 16)), (0, (1, 275)), (1, (0, w 329 (10000 * a + p))), (2, (0, p)), (3, (0, y3))], [(0, 1), (1, 276)], w)) 1 rfl ?_
              have h108 := (e_Has.get hT (c := 276) (k := 1) (lo := 0) (hi := 1) rfl (by decide))
              refine e_Ok.ald (z := w 276 1) rfl (el_o rfl) rfl (by omega) rfl (by omega) ?_
              refine e_Ok.if1 rfl (fun h109 => ?_) (fun h109 => ?_)
              · replace h109 : (w 276 1 : Int) ≠ 0 := h109
                refine e_Ok.run (t' := (141, [(5, (0, 0)), (4, (0, 36 * a + 16)), (0, (1, 275)), (1, (0, w 329 (10000 * a + p))), (2, (0, p)), (3, (0, y3))], [(0, 0)], w)) 3 rfl ?_
                refine e_Ok.if1 rfl (fun h110 => ?_) (fun h110 => ?_)
                · replace h110 : (0 : Int) = 0 := h110
                  have hfit := j94 (by omega)
                  refine e_Ok.run (t' := (154, [(6, (0, 0)), (5, (0, 0)), (4, (0, 36 * a + 16)), (0, (1, 275)), (1, (0, w 329 (10000 * a + p))), (2, (0, p)), (3, (0, y3))], [], w)) 2 rfl ?_
                  have hL111 : ∀ (nn : Nat) (y6 : Int) (v2 : eW), e_fr (mMv t a) w v2 ∧ e_Has mTy v2 ∧ (0 ≤ y6 ∧ y6 ≤ 6) ∧ (∀ j, 0 ≤ j → j < y6 → v2 276 (36 * a + j + 44) = w 345 j) ∧ e_fr (mGo a) w v2 → 7 - y6 < nn → e_Ok 20 elay ecode eI (d + 1) 380 (154, [(0, (1, 275)), (1, (0, w 329 (10000 * a + p))), (2, (0, p)), (4, (0, 36 * a + 16)), (6, (0, y6))], [], v2) (fun r' w' => r' = [] ∧ e_fr (mMv t a) w w' ∧ e_Has mTy w' ∧ (w 276 5 ≤ w' 276 5 ∧ w' 276 5 ≤ w 276 5 + 2) ∧ mMo w' (-1) ∧ ((w' 275 102 = 0 ∧ ((w' 275 100 = 1 ∧ (w' 276 (1260 * t + 416) = 6 ∨ w' 276 (1260 * t + 416) = 7)) ∨ (w' 275 100 = w 275 100 ∧ w' 276 (1260 * t + 416) = w 276 (1260 * t + 416) ∧ w' 276 5 = w 276 5 ∧ ∃ (g' p' : Int) (bs' ow' : Int → Int), g' ≤ g ∧ (g' = g → p < p') ∧ topOk w' a t g' p' n nt nw dl sg pi an br bs' ow' ∧ dl p' = 0 ∧ sg p' = 0))) ∨ (w' 275 100 = 1 ∧ w' 276 (1260 * t + 416) = 2 ∧ topOk w' a t g (p + 1) n nt nw dl sg pi an br bs ow ∧ dl (p + 1) = 0))) := by
                    intro nn
                    induction nn with
                    | zero => intro y6 v2 hj hm; obtain ⟨j113, j114, j115, j116, j117⟩ := hj; exfalso; omega
                    | succ nn ih112 =>
                      intro y6 v2 hj hm
                      obtain ⟨j113, j114, j115, j116, j117⟩ := hj
                      refine e_Ok.run (t' := (157, [(0, (1, 275)), (1, (0, w 329 (10000 * a + p))), (2, (0, p)), (4, (0, 36 * a + 16)), (6, (0, y6))], [(0, w 329 (10000 * a + p)), (0, y6)], v2)) 2 rfl ?_
                      refine e_Ok.if2 rfl (fun h118 => ?_) (fun h118 => ?_)
                      · replace h118 : (y6 : Int) ≥ w 329 (10000 * a + p) := h118
                        refine e_Ok.run (t' := (188, [(0, (1, 275)), (1, (0, w 329 (10000 * a + p))), (2, (0, p)), (4, (0, 36 * a + 16)), (6, (0, y6))], [(1, 275), (1, 275)], v2)) 2 rfl ?_
                        refine e_Ok.getf (z := a) rfl (el_o rfl) rfl rfl ((j117 275 98 (by first | exact no_78_0 | (unfold mGo; omega))).trans h98) (by omega) ?_
                        refine e_Ok.callV rfl (by omega) rfl rfl rfl rfl (c_381 (by omega) j114 (mCf.fr hCf (fun c k q => ((j117 c k (by unfold mGo; omega)).trans rfl))) (by omega)) (fun r119 w120 h121 => ?_)
                        obtain ⟨rfl, q122, q122T, q122s⟩ := h121
                        have f123 : e_fr (mMv t a) w w120 := e_fr.trans j113 (e_fr.mono q122 (fun c k q => by first | exact su_78_21 q | (unfold mBe at q; unfold mMv mLv; omega)))
                        show e_Ok 20 elay ecode eI (d + 1) 380 (194, [(0, (1, 275)), (1, (0, w 329 (10000 * a + p))), (2, (0, p)), (4, (0, 36 * a + 16)), (6, (0, y6))], [], w120) _
                        refine e_Ok.run (t' := (195, [(0, (1, 275)), (1, (0, w 329 (10000 * a + p))), (2, (0, p)), (4, (0, 36 * a + 16)), (6, (0, y6))], [(1, 275)], w120)) 1 rfl ?_
                        refine e_Ok.getr (z := 276) rfl (el_o rfl) rfl rfl ((q122 275 0 (by first | exact no_78_1 | (unfold mBe; omega))).trans ((j117 275 0 (by first | exact no_78_0 | (unfold mGo; omega))).trans (e_Has.eq hT rfl))) (by omega) ?_
                        refine e_Ok.run (t' := (202, [(0, (1, 275)), (1, (0, w 329 (10000 * a + p))), (2, (0, p)), (4, (0, 36 * a + 16)), (6, (0, y6))], [(0, 9), (0, 36 * a + 16), (1, 276)], w120)) 2 rfl ?_
                        refine e_Ok.add (z := 36 * a + 25) rfl (by omega) (by omega) ?_
                        refine e_Ok.run (t' := (204, [(0, (1, 275)), (1, (0, w 329 (10000 * a + p))), (2, (0, p)), (4, (0, 36 * a + 16)), (6, (0, y6))], [(1, 275), (0, 36 * a + 25), (1, 276)], w120)) 1 rfl ?_
                        refine e_Ok.getf (z := t) rfl (el_o rfl) rfl rfl ((q122 275 96 (by first | exact no_78_1 | (unfold mBe; omega))).trans ((j117 275 96 (by first | exact no_78_0 | (unfold mGo; omega))).trans h96)) (by omega) ?_
                        refine e_Ok.ast rfl (el_o rfl) rfl rfl (by omega) ?_
                        generalize hw124 : e_up w120 276 (36 * a + 25) t = w124
                        have f125 : e_fr (mMv t a) w w124 := e_fr.up f123 hw124 (by unfold mMv mLv; omega)
                        have hT126 : e_Has mTy w124 := e_Has.upr q122T hw124 (nR_MOVER (a := a) (by omega)) (by omega)
                        refine e_Ok.run (t' := (209, [(0, (1, 275)), (1, (0, w 329 (10000 * a + p))), (2, (0, p)), (4, (0, 36 * a + 16)), (6, (0, y6))], [(1, 275)], w124)) 1 rfl ?_
                        refine e_Ok.getr (z := 276) rfl (el_o rfl) rfl rfl (by rw [← hw124]; exact (e_up_ne _ _ (Or.inl (by omega))).trans ((q122 275 0 (by first | exact no_78_1 | (unfold mBe; omega))).trans ((j117 275 0 (by first | exact no_78_0 | (unfold mGo; omega))).trans (e_Has.eq hT rfl)))) (by omega) ?_
                        refine e_Ok.run (t' := (213, [(0, (1, 275)), (1, (0, w 329 (10000 * a + p))), (2, (0, p)), (4, (0, 36 * a + 16)), (6, (0, y6))], [(1, 275), (1, 276)], w124)) 1 rfl ?_
                        refine e_Ok.getf (z := 1260 * t + 416) rfl (el_o rfl) rfl rfl (by rw [← hw124]; exact (e_up_ne _ _ (Or.inl (by omega))).trans ((q122 275 97 (by first | exact no_78_1 | (unfold mBe; omega))).trans ((j117 275 97 (by first | exact no_78_0 | (unfold mGo; omega))).trans h97))) (by omega) ?_
                        refine e_Ok.run (t' := (217, [(0, (1, 275)), (1, (0, w 329 (10000 * a + p))), (2, (0, p)), (4, (0, 36 * a + 16)), (6, (0, y6))], [(0, 2), (0, 1260 * t + 416), (1, 276)], w124)) 1 rfl ?_
                        refine e_Ok.ast rfl (el_o rfl) rfl rfl (by omega) ?_
                        generalize hw127 : e_up w124 276 (1260 * t + 416) 2 = w127
                        have f128 : e_fr (mMv t a) w w127 := e_fr.up f125 hw127 (by unfold mMv mLv; omega)
                        have hT129 : e_Has mTy w127 := e_Has.upr hT126 hw127 (nR_TSTATE (t := t) (by omega)) (by omega)
                        refine e_Ok.run (t' := (219, [(0, (1, 275)), (1, (0, w 329 (10000 * a + p))), (2, (0, p)), (4, (0, 36 * a + 16)), (6, (0, y6))], [(1, 275)], w127)) 1 rfl ?_
                        refine e_Ok.getr (z := 276) rfl (el_o rfl) rfl rfl (by rw [← hw127]; exact (e_up_ne _ _ (Or.inl (by omega))).trans (by rw [← hw124]; exact (e_up_ne _ _ (Or.inl (by omega))).trans ((q122 275 0 (by first | exact no_78_1 | (unfold mBe; omega))).trans ((j117 275 0 (by first | exact no_78_0 | (unfold mGo; omega))).trans (e_Has.eq hT rfl))))) (by omega) ?_
                        refine e_Ok.run (t' := (223, [(0, (1, 275)), (1, (0, w 329 (10000 * a + p))), (2, (0, p)), (4, (0, 36 * a + 16)), (6, (0, y6))], [(1, 275), (1, 276)], w127)) 1 rfl ?_
                        refine e_Ok.getf (z := 1260 * t + 416) rfl (el_o rfl) rfl rfl (by rw [← hw127]; exact (e_up_ne _ _ (Or.inl (by omega))).trans (by rw [← hw124]; exact (e_up_ne _ _ (Or.inl (by omega))).trans ((q122 275 97 (by first | exact no_78_1 | (unfold mBe; omega))).trans ((j117 275 97 (by first | exact no_78_0 | (unfold mGo; omega))).trans h97)))) (by omega) ?_
                        refine e_Ok.run (t' := (228, [(0, (1, 275)), (1, (0, w 329 (10000 * a + p))), (2, (0, p)), (4, (0, 36 * a + 16)), (6, (0, y6))], [(0, 7), (0, 1260 * t + 416), (1, 276)], w127)) 1 rfl ?_
                        refine e_Ok.add (z := 1260 * t + 423) rfl (by omega) (by omega) ?_
                        refine e_Ok.run (t' := (230, [(0, (1, 275)), (1, (0, w 329 (10000 * a + p))), (2, (0, p)), (4, (0, 36 * a + 16)), (6, (0, y6))], [(0, 0), (0, 1260 * t + 423), (1, 276)], w127)) 1 rfl ?_
                        refine e_Ok.ast rfl (el_o rfl) rfl rfl (by omega) ?_
                        generalize hw130 : e_up w127 276 (1260 * t + 423) 0 = w130
                        have f131 : e_fr (mMv t a) w w130 := e_fr.up f128 hw130 (by unfold mMv mLv; omega)
                        have hT132 : e_Has mTy w130 := e_Has.upr hT129 hw130 (nR_BROKEN (t := t) (by omega)) (by omega)
                        refine e_Ok.run (t' := (233, [(0, (1, 275)), (1, (0, w 329 (10000 * a + p))), (2, (0, p)), (4, (0, 36 * a + 16)), (6, (0, y6))], [(0, 1), (1, 275)], w130)) 2 rfl ?_
                        refine e_Ok.putb rfl (el_o rfl) rfl rfl (by omega) ?_
                        generalize hw133 : e_up w130 275 100 1 = w133
                        have f134 : e_fr (mMv t a) w w133 := e_fr.up f131 hw133 (by unfold mMv mLv; omega)
                        have hT135 : e_Has mTy w133 := e_Has.ups hT132 hw133 rfl
                        refine e_Ok.run (t' := (239, [(0, (1, 275)), (1, (0, w 329 (10000 * a + p))), (2, (0, p)), (4, (0, 36 * a + 16)), (6, (0, y6))], [(0, 1), (0, p), (1, 275)], w133)) 3 rfl ?_
                        refine e_Ok.add (z := p + 1) rfl (by omega) (by omega) ?_
                        refine e_Ok.callV rfl (by omega) rfl rfl rfl rfl (c_365 (by omega) hT135 (by omega) (by rw [← hw133]; exact (e_up_ne _ _ (Or.inr (by omega))).trans (by rw [← hw130]; exact (e_up_ne _ _ (Or.inl (by omega))).trans (by rw [← hw127]; exact (e_up_ne _ _ (Or.inl (by omega))).trans (by rw [← hw124]; exact (e_up_ne _ _ (Or.inl (by omega))).trans ((q122 275 97 (by first | exact no_78_1 | (unfold mBe; omega))).trans ((j117 275 97 (by first | exact no_78_0 | (unfold mGo; omega))).trans h97)))))) (f := g + 1) (z := 1260 * t + 2 * g + 436) (by rw [← hw133]; exact (e_up_ne _ _ (Or.inl (by omega))).trans (by rw [← hw130]; exact (e_up_ne _ _ (Or.inr (by omega))).trans (by rw [← hw127]; exact (e_up_ne _ _ (Or.inr (by omega))).trans (by rw [← hw124]; exact (e_up_ne _ _ (Or.inr (by omega))).trans ((q122 276 (1260 * t + 428) (by first | exact no_78_2 (by omega) (by omega) | (unfold mBe; omega))).trans ((j117 276 (1260 * t + 428) (by first | exact no_78_3 (by omega) (by omega) | (unfold mGo; omega))).trans hF)))))) (by omega) (by omega)) (fun r136 w137 h138 => ?_)
                        obtain ⟨rfl, hw137⟩ := h138
                        have f139 : e_fr (mMv t a) w w137 := e_fr.up f134 hw137 (by unfold mMv mLv; omega)
                        have hT140 : e_Has mTy w137 := e_Has.upr hT135 hw137 (nR_FRg t (g) (by omega) (by omega) (by omega)) (by omega)
                        show e_Ok 20 elay ecode eI (d + 1) 380 (243, [(0, (1, 275)), (1, (0, w 329 (10000 * a + p))), (2, (0, p)), (4, (0, 36 * a + 16)), (6, (0, y6))], [], w137) _
                        refine e_Ok.rets rfl rfl ?_
                        have e141 : w137 276 5 = w 276 5 := (by rw [← hw137]; exact (e_up_ne _ _ (Or.inr (by omega))).trans (by rw [← hw133]; exact (e_up_ne _ _ (Or.inl (by omega))).trans (by rw [← hw130]; exact (e_up_ne _ _ (Or.inr (by omega))).trans (by rw [← hw127]; exact (e_up_ne _ _ (Or.inr (by omega))).trans (by rw [← hw124]; exact (e_up_ne _ _ (Or.inr (by omega))).trans ((q122 276 5 (by first | exact no_78_4 (by omega) | (unfold mBe; omega))).trans ((j117 276 5 (by first | exact no_78_5 (by omega) | (unfold mGo; omega))).trans rfl)))))))
                        have hmo : mMo w137 (-1) := mMo.begin hMo (Or.inl rfl) (e_Has.mo hT) ha (by omega) (by omega) (fun c k q q2 => f139 c k (moK_mv ht ha q q2)) (fun b g1 g2 g3 => ⟨(by rw [← hw137]; exact (e_up_ne _ _ (Or.inr (by omega))).trans (by rw [← hw133]; exact (e_up_ne _ _ (Or.inl (by omega))).trans (by rw [← hw130]; exact (e_up_ne _ _ (Or.inr (by omega))).trans (by rw [← hw127]; exact (e_up_ne _ _ (Or.inr (by omega))).trans (by rw [← hw124]; exact (e_up_ne _ _ (Or.inr (by omega))).trans ((q122 276 (36 * b + 16) (by unfold mBe; omega)).trans ((j117 276 (36 * b + 16) (by first | exact no_78_6 (by omega) (by omega) | (unfold mGo; omega))).trans rfl))))))), (by rw [← hw137]; exact (e_up_ne _ _ (Or.inr (by omega))).trans (by rw [← hw133]; exact (e_up_ne _ _ (Or.inl (by omega))).trans (by rw [← hw130]; exact (e_up_ne _ _ (Or.inr (by omega))).trans (by rw [← hw127]; exact (e_up_ne _ _ (Or.inr (by omega))).trans (by rw [← hw124]; exact (e_up_ne _ _ (Or.inr (by omega))).trans ((q122 276 (36 * b + 22) (by first | exact no_78_7 (by omega) (by omega) | (unfold mBe; omega))).trans ((j117 276 (36 * b + 22) (by first | exact no_78_8 (by omega) (by omega) | (unfold mGo; omega))).trans rfl)))))))⟩) (by rw [← hw137]; exact (e_up_ne _ _ (Or.inr (by omega))).trans (by rw [← hw133]; exact (e_up_ne _ _ (Or.inl (by omega))).trans (by rw [← hw130]; exact (e_up_ne _ _ (Or.inr (by omega))).trans (by rw [← hw127]; exact (e_up_ne _ _ (Or.inr (by omega))).trans (by rw [← hw124]; exact (e_up_ne _ _ (Or.inr (by omega))).trans q122s))))) (fun j g1 g2 => by rw [show w137 276 (36 * a + j + 44) = w 345 j from Eq.trans (by rw [← hw137]; exact (e_up_ne _ _ (Or.inr (by omega))).trans (by rw [← hw133]; exact (e_up_ne _ _ (Or.inl (by omega))).trans (by rw [← hw130]; exact (e_up_ne _ _ (Or.inr (by omega))).trans (by rw [← hw127]; exact (e_up_ne _ _ (Or.inr (by omega))).trans (by rw [← hw124]; exact (e_up_ne _ _ (Or.inr (by omega))).trans ((q122 276 (36 * a + j + 44) (by first | exact no_78_9 (by omega) (by omega) | (unfold mBe; omega))).trans rfl)))))) (j116 j g1 (by omega))]; exact hfit.2 j g1 (by omega)) (fun e => by have e1 := ((hMo.2.1 a ha.1 ha.2).2 (Eq.trans (Eq.symm (by rw [← hw137]; exact (e_up_ne _ _ (Or.inr (by omega))).trans (by rw [← hw133]; exact (e_up_ne _ _ (Or.inl (by omega))).trans (by rw [← hw130]; exact (e_up_ne _ _ (Or.inr (by omega))).trans (by rw [← hw127]; exact (e_up_ne _ _ (Or.inr (by omega))).trans (by rw [← hw124]; exact (e_up_ne _ _ (Or.inr (by omega))).trans ((q122 276 (36 * a + 22) (by first | exact no_78_10 (by omega) | (unfold mBe; omega))).trans ((j117 276 (36 * a + 22) (by first | exact no_78_11 (by omega) | (unfold mGo; omega))).trans rfl)))))))) e)).1; exfalso; omega)
                        have hrn := runOk.fr (w' := w137) (fun c k q1 q2 => (by rw [← hw137]; exact (e_up_ne _ _ (Or.inl (by omega))).trans (by rw [← hw133]; exact (e_up_ne _ _ (Or.inl (by omega))).trans (by rw [← hw130]; exact (e_up_ne _ _ (Or.inl (by omega))).trans (by rw [← hw127]; exact (e_up_ne _ _ (Or.inl (by omega))).trans (by rw [← hw124]; exact (e_up_ne _ _ (Or.inl (by omega))).trans ((q122 c k (by unfold mBe; omega)).trans ((j117 c k (by unfold mGo; omega)).trans rfl)))))))) (fun i q1 q2 => ⟨(by rw [← hw137]; exact (e_up_ne _ _ (Or.inr (by omega))).trans (by rw [← hw133]; exact (e_up_ne _ _ (Or.inl (by omega))).trans (by rw [← hw130]; exact (e_up_ne _ _ (Or.inr (by omega))).trans (by rw [← hw127]; exact (e_up_ne _ _ (Or.inr (by omega))).trans (by rw [← hw124]; exact (e_up_ne _ _ (Or.inr (by omega))).trans ((q122 276 (1260 * t + 2 * i + 436) (by first | exact no_78_12 (by omega) (by omega) (by omega) | (unfold mBe; omega))).trans ((j117 276 (1260 * t + 2 * i + 436) (by first | exact no_78_13 (by omega) (by omega) (by omega) | (unfold mGo; omega))).trans rfl))))))), (by rw [← hw137]; exact (e_up_ne _ _ (Or.inr (by omega))).trans (by rw [← hw133]; exact (e_up_ne _ _ (Or.inl (by omega))).trans (by rw [← hw130]; exact (e_up_ne _ _ (Or.inr (by omega))).trans (by rw [← hw127]; exact (e_up_ne _ _ (Or.inr (by omega))).trans (by rw [← hw124]; exact (e_up_ne _ _ (Or.inr (by omega))).trans ((q122 276 (1260 * t + 2 * i + 439) (by first | exact no_78_14 (by omega) (by omega) (by omega) | (unfold mBe; omega))).trans ((j117 276 (1260 * t + 2 * i + 439) (by first | exact no_78_15 (by omega) (by omega) (by omega) | (unfold mGo; omega))).trans rfl)))))))⟩) (by rw [← hw137]; exact (e_up_ne _ _ (Or.inr (by omega))).trans (by rw [← hw133]; exact (e_up_ne _ _ (Or.inl (by omega))).trans (by rw [← hw130]; exact (e_up_ne _ _ (Or.inr (by omega))).trans (by rw [← hw127]; exact (e_up_ne _ _ (Or.inr (by omega))).trans (by rw [← hw124]; exact (e_up_ne _ _ (Or.inr (by omega))).trans ((q122 276 (1260 * t + 428) (by first | exact no_78_2 (by omega) (by omega) | (unfold mBe; omega))).trans ((j117 276 (1260 * t + 428) (by first | exact no_78_3 (by omega) (by omega) | (unfold mGo; omega))).trans rfl))))))) (by rw [← hw137]; exact (e_up_ne _ _ (Or.inr (by omega))).trans (by rw [← hw133]; exact (e_up_ne _ _ (Or.inl (by omega))).trans (by rw [← hw130]; exact (e_up_ne _ _ (Or.inr (by omega))).trans (by rw [← hw127]; exact (e_up_ne _ _ (Or.inr (by omega))).trans (by rw [← hw124]; exact (e_up_ne _ _ (Or.inr (by omega))).trans ((q122 276 (1260 * t + 429) (by first | exact no_78_16 (by omega) (by omega) | (unfold mBe; omega))).trans ((j117 276 (1260 * t + 429) (by first | exact no_78_17 (by omega) (by omega) | (unfold mGo; omega))).trans rfl))))))) (fun k q1 q2 => (by rw [← hw137]; exact (e_up_ne _ _ (Or.inr (by omega))).trans (by rw [← hw133]; exact (e_up_ne _ _ (Or.inl (by omega))).trans (by rw [← hw130]; exact (e_up_ne _ _ (Or.inr (by omega))).trans (by rw [← hw127]; exact (e_up_ne _ _ (Or.inr (by omega))).trans (by rw [← hw124]; exact (e_up_ne _ _ (Or.inr (by omega))).trans ((q122 276 (1260 * t + k + 476) (by unfold mBe; omega)).trans ((j117 276 (1260 * t + k + 476) (by unfold mGo; omega)).trans rfl)))))))) (by omega) hru
                        have erg : w137 330 (10000 * a + (p + 1)) = w 330 (10000 * a + p) := by rw [show 10000 * a + (p + 1) = 10000 * a + p + 1 by omega]; exact Eq.trans (by rw [← hw137]; exact (e_up_ne _ _ (Or.inl (by omega))).trans (by rw [← hw133]; exact (e_up_ne _ _ (Or.inl (by omega))).trans (by rw [← hw130]; exact (e_up_ne _ _ (Or.inl (by omega))).trans (by rw [← hw127]; exact (e_up_ne _ _ (Or.inl (by omega))).trans (by rw [← hw124]; exact (e_up_ne _ _ (Or.inl (by omega))).trans ((q122 330 (10000 * a + p + 1) (by first | exact no_78_18 | (unfold mBe; omega))).trans ((j117 330 (10000 * a + p + 1) (by first | exact no_78_19 | (unfold mGo; omega))).trans rfl))))))) k8.1.2
                        exact ⟨rfl, f139, hT140, by omega, hmo, Or.inr ⟨(by rw [← hw137]; exact (e_up_ne _ _ (Or.inl (by omega))).trans (by rw [← hw133]; exact e_up_eq _ _ _ _)), (by rw [← hw137]; exact (e_up_ne _ _ (Or.inr (by omega))).trans (by rw [← hw133]; exact (e_up_ne _ _ (Or.inl (by omega))).trans (by rw [← hw130]; exact (e_up_ne _ _ (Or.inr (by omega))).trans (by rw [← hw127]; exact e_up_eq _ _ _ _)))), runOk.at hrn (by omega) (by rw [← hw137]; exact e_up_eq _ _ _ _) erg, by omega⟩⟩
                      · replace h118 : (y6 : Int) < w 329 (10000 * a + p) := by have q : ¬ ((y6 : Int) ≥ w 329 (10000 * a + p)) := h118; omega
                        have hgl := hfit.2 y6 (by omega) (by omega)
                        have hb288 := e_Has.get hT (c := 288) (k := 6 * a + y6) (lo := -100000) (hi := 0) rfl (by decide)
                        have hb289 := e_Has.get hT (c := 289) (k := 6 * a + y6) (lo := 0) (hi := 100000) rfl (by decide)
                        refine e_Ok.run (t' := (161, [(0, (1, 275)), (1, (0, w 329 (10000 * a + p))), (2, (0, p)), (4, (0, 36 * a + 16)), (6, (0, y6))], [(1, 275)], v2)) 1 rfl ?_
                        refine e_Ok.getr (z := 276) rfl (el_o rfl) rfl rfl ((j117 275 0 (by first | exact no_78_0 | (unfold mGo; omega))).trans (e_Has.eq hT rfl)) (by omega) ?_
                        refine e_Ok.run (t' := (168, [(0, (1, 275)), (1, (0, w 329 (10000 * a + p))), (2, (0, p)), (4, (0, 36 * a + 16)), (6, (0, y6))], [(0, 28), (0, 36 * a + 16), (1, 276)], v2)) 2 rfl ?_
                        refine e_Ok.add (z := 36 * a + 44) rfl (by omega) (by omega) ?_
                        refine e_Ok.run (t' := (171, [(0, (1, 275)), (1, (0, w 329 (10000 * a + p))), (2, (0, p)), (4, (0, 36 * a + 16)), (6, (0, y6))], [(0, y6), (0, 36 * a + 44), (1, 276)], v2)) 1 rfl ?_
                        refine e_Ok.add (z := 36 * a + y6 + 44) rfl (by omega) (by omega) ?_
                        refine e_Ok.run (t' := (173, [(0, (1, 275)), (1, (0, w 329 (10000 * a + p))), (2, (0, p)), (4, (0, 36 * a + 16)), (6, (0, y6))], [(1, 275), (0, 36 * a + y6 + 44), (1, 276)], v2)) 1 rfl ?_
                        refine e_Ok.getr (z := 345) rfl (el_o rfl) rfl rfl ((j117 275 101 (by first | exact no_78_0 | (unfold mGo; omega))).trans (e_Has.eq hT rfl)) (by omega) ?_
                        refine e_Ok.run (t' := (178, [(0, (1, 275)), (1, (0, w 329 (10000 * a + p))), (2, (0, p)), (4, (0, 36 * a + 16)), (6, (0, y6))], [(0, y6), (1, 345), (0, 36 * a + y6 + 44), (1, 276)], v2)) 1 rfl ?_
                        have h142 := (hst y6 (by omega) (by omega))
                        refine e_Ok.ald (z := w 345 y6) rfl (el_o rfl) rfl (by omega) ((j117 345 y6 (by first | exact no_78_20 | (unfold mGo; omega))).trans rfl) (by omega) ?_
                        refine e_Ok.ast rfl (el_o rfl) rfl rfl (by omega) ?_
                        generalize hw143 : e_up v2 276 (36 * a + y6 + 44) (w 345 y6) = w143
                        have f144 : e_fr (mMv t a) w w143 := e_fr.up j113 hw143 (by unfold mMv mLv; omega)
                        have hT145 : e_Has mTy w143 := e_Has.upr j114 hw143 (nR_GOAL (a := a) (j := y6) (by omega) (by omega)) (by omega)
                        refine e_Ok.inc (z := y6 + 1) rfl rfl (by omega) (by omega) ?_
                        show e_Ok 20 elay ecode eI (d + 1) 380 (183, [(6, (0, y6 + 1)), (0, (1, 275)), (1, (0, w 329 (10000 * a + p))), (2, (0, p)), (4, (0, 36 * a + 16))], [], w143) _
                        refine e_Ok.run (t' := (154, [(6, (0, y6 + 1)), (0, (1, 275)), (1, (0, w 329 (10000 * a + p))), (2, (0, p)), (4, (0, 36 * a + 16))], [], w143)) 1 rfl ?_
                        refine e_Ok.sub eAlk (e_sub_of rfl ?_) (ih112 (y6 + 1) w143 ⟨f144, hT145, by omega, (fun j g1 g2 => Decidable.byCases (p := j = y6) (fun e => by rw [e, ← hw143]; exact e_up_eq _ _ _ _) (fun e => Eq.trans (by rw [← hw143]; exact e_up_ne _ _ (Or.inr (by omega))) (j116 j g1 (by omega)))), (e_fr.up j117 hw143 (by unfold mGo; omega))⟩ (by omega))
                        exact ⟨rfl, rfl, rfl, rfl, rfl, trivial⟩
                  refine e_Ok.sub eAlk (e_sub_of rfl ?_) (hL111 (7 + 1 : Int).toNat 0 w ⟨(e_fr.refl w), hT, by omega, (fun j g1 g2 => by omega), (e_fr.refl w)⟩ (by omega))
                  exact ⟨rfl, rfl, rfl, rfl, rfl, trivial⟩
                · replace h110 : (0 : Int) ≠ 0 := by have q : ¬ ((0 : Int) = 0) := h110; omega
                  exfalso; omega
              · replace h109 : (w 276 1 : Int) = 0 := by have q : ¬ ((w 276 1 : Int) ≠ 0) := h109; omega
                refine e_Ok.run (t' := (141, [(5, (0, 5)), (4, (0, 36 * a + 16)), (0, (1, 275)), (1, (0, w 329 (10000 * a + p))), (2, (0, p)), (3, (0, y3))], [(0, 5)], w)) 4 rfl ?_
                refine e_Ok.if1 rfl (fun h146 => ?_) (fun h146 => ?_)
                · replace h146 : (5 : Int) = 0 := h146
                  exfalso; omega
                · replace h146 : (5 : Int) ≠ 0 := by have q : ¬ ((5 : Int) = 0) := h146; omega
                  refine e_Ok.run (t' := (147, [(5, (0, 5)), (4, (0, 36 * a + 16)), (0, (1, 275)), (1, (0, w 329 (10000 * a + p))), (2, (0, p)), (3, (0, y3))], [(0, 5), (1, 275)], w)) 2 rfl ?_
                  refine e_Ok.callV rfl (by omega) rfl rfl rfl rfl (c_369 (by omega) hT (by omega) (by omega) h96 h97 h98 hC hP (by omega) (by omega)) (fun r147 w148 h149 => ?_)
                  obtain ⟨rfl, ⟨q150, q150S⟩, q150T, q150n, q150d, q150c⟩ := h149
                  have f151 : e_fr (mMv t a) w w148 := e_fr.trans (e_fr.refl w) (e_fr.mono q150 (fun c k q => by exact Or.inl q))
                  show e_Ok 20 elay ecode eI (d + 1) 380 (150, [(5, (0, 5)), (4, (0, 36 * a + 16)), (0, (1, 275)), (1, (0, w 329 (10000 * a + p))), (2, (0, p)), (3, (0, y3))], [], w148) _
                  refine e_Ok.rets rfl rfl ?_
                  exact ⟨rfl, f151, q150T, by omega, mMo.rel hMo (e_Has.mo hT) hCf (sRel.trans sRel.refl q150S) (fun c k q => q150 c k (moK_lv ht q)), Or.inl ⟨q150d, q150c⟩⟩
            · replace h107 : (w 276 (36 * a + 16) : Int) ≠ 0 := by have q : ¬ ((w 276 (36 * a + 16) : Int) = 0) := h107; omega
              refine e_Ok.run (t' := (141, [(5, (0, 4)), (4, (0, 36 * a + 16)), (0, (1, 275)), (1, (0, w 329 (10000 * a + p))), (2, (0, p)), (3, (0, y3))], [(0, 4)], w)) 4 rfl ?_
              refine e_Ok.if1 rfl (fun h152 => ?_) (fun h152 => ?_)
              · replace h152 : (4 : Int) = 0 := h152
                exfalso; omega
              · replace h152 : (4 : Int) ≠ 0 := by have q : ¬ ((4 : Int) = 0) := h152; omega
                refine e_Ok.run (t' := (147, [(5, (0, 4)), (4, (0, 36 * a + 16)), (0, (1, 275)), (1, (0, w 329 (10000 * a + p))), (2, (0, p)), (3, (0, y3))], [(0, 4), (1, 275)], w)) 2 rfl ?_
                refine e_Ok.callV rfl (by omega) rfl rfl rfl rfl (c_369 (by omega) hT (by omega) (by omega) h96 h97 h98 hC hP (by omega) (by omega)) (fun r153 w154 h155 => ?_)
                obtain ⟨rfl, ⟨q156, q156S⟩, q156T, q156n, q156d, q156c⟩ := h155
                have f157 : e_fr (mMv t a) w w154 := e_fr.trans (e_fr.refl w) (e_fr.mono q156 (fun c k q => by exact Or.inl q))
                show e_Ok 20 elay ecode eI (d + 1) 380 (150, [(5, (0, 4)), (4, (0, 36 * a + 16)), (0, (1, 275)), (1, (0, w 329 (10000 * a + p))), (2, (0, p)), (3, (0, y3))], [], w154) _
                refine e_Ok.rets rfl rfl ?_
                exact ⟨rfl, f157, q156T, by omega, mMo.rel hMo (e_Has.mo hT) hCf (sRel.trans sRel.refl q156S) (fun c k q => q156 c k (moK_lv ht q)), Or.inl ⟨q156d, q156c⟩⟩
          · replace h105 : (y3 : Int) = 0 := by have q : ¬ ((y3 : Int) ≠ 0) := h105; omega
            refine e_Ok.run (t' := (141, [(5, (0, 3)), (4, (0, 36 * a + 16)), (0, (1, 275)), (1, (0, w 329 (10000 * a + p))), (2, (0, p)), (3, (0, y3))], [(0, 3)], w)) 4 rfl ?_
            refine e_Ok.if1 rfl (fun h158 => ?_) (fun h158 => ?_)
            · replace h158 : (3 : Int) = 0 := h158
              exfalso; omega
            · replace h158 : (3 : Int) ≠ 0 := by have q : ¬ ((3 : Int) = 0) := h158; omega
              refine e_Ok.run (t' := (147, [(5, (0, 3)), (4, (0, 36 * a + 16)), (0, (1, 275)), (1, (0, w 329 (10000 * a + p))), (2, (0, p)), (3, (0, y3))], [(0, 3), (1, 275)], w)) 2 rfl ?_
              refine e_Ok.callV rfl (by omega) rfl rfl rfl rfl (c_369 (by omega) hT (by omega) (by omega) h96 h97 h98 hC hP (by omega) (by omega)) (fun r159 w160 h161 => ?_)
              obtain ⟨rfl, ⟨q162, q162S⟩, q162T, q162n, q162d, q162c⟩ := h161
              have f163 : e_fr (mMv t a) w w160 := e_fr.trans (e_fr.refl w) (e_fr.mono q162 (fun c k q => by exact Or.inl q))
              show e_Ok 20 elay ecode eI (d + 1) 380 (150, [(5, (0, 3)), (4, (0, 36 * a + 16)), (0, (1, 275)), (1, (0, w 329 (10000 * a + p))), (2, (0, p)), (3, (0, y3))], [], w160) _
              refine e_Ok.rets rfl rfl ?_
              exact ⟨rfl, f163, q162T, by omega, mMo.rel hMo (e_Has.mo hT) hCf (sRel.trans sRel.refl q162S) (fun c k q => q162 c k (moK_lv ht q)), Or.inl ⟨q162d, q162c⟩⟩
        · replace h95 : (y4 : Int) < w 286 a := by have q : ¬ ((y4 : Int) ≥ w 286 a) := h95; omega
          refine e_Ok.run (t' := (37, [(0, (1, 275)), (1, (0, w 329 (10000 * a + p))), (2, (0, p)), (3, (0, y3)), (4, (0, y4))], [(0, y3)], w)) 1 rfl ?_
          refine e_Ok.if1 rfl (fun h164 => ?_) (fun h164 => ?_)
          · replace h164 : (y3 : Int) = 0 := h164
            refine e_Ok.run (t' := (91, [(0, (1, 275)), (1, (0, w 329 (10000 * a + p))), (2, (0, p)), (3, (0, y3)), (4, (0, y4))], [(1, 275)], w)) 1 rfl ?_
            refine e_Ok.getf (z := a) rfl (el_o rfl) rfl rfl h98 (by omega) ?_
            refine e_Ok.callS rfl (by omega) rfl rfl (c_268 (by omega)) (fun r165 w166 h167 => ?_)
            obtain ⟨rfl, rfl⟩ := h167
            show e_Ok 20 elay ecode eI (d + 1) 380 (97, [(0, (1, 275)), (1, (0, w 329 (10000 * a + p))), (2, (0, p)), (3, (0, y3)), (4, (0, y4))], [(0, 36 * a + 16)], w) _
            refine e_Ok.run (t' := (100, [(4, (0, 36 * a + 16)), (0, (1, 275)), (1, (0, w 329 (10000 * a + p))), (2, (0, p)), (3, (0, y3))], [(0, y3)], w)) 2 rfl ?_
            refine e_Ok.if1 rfl (fun h168 => ?_) (fun h168 => ?_)
            · replace h168 : (y3 : Int) ≠ 0 := h168
              exfalso; omega
            · replace h168 : (y3 : Int) = 0 := by have q : ¬ ((y3 : Int) ≠ 0) := h168; omega
              refine e_Ok.run (t' := (141, [(5, (0, 3)), (4, (0, 36 * a + 16)), (0, (1, 275)), (1, (0, w 329 (10000 * a + p))), (2, (0, p)), (3, (0, y3))], [(0, 3)], w)) 4 rfl ?_
              refine e_Ok.if1 rfl (fun h169 => ?_) (fun h169 => ?_)
              · replace h169 : (3 : Int) = 0 := h169
                exfalso; omega
              · replace h169 : (3 : Int) ≠ 0 := by have q : ¬ ((3 : Int) = 0) := h169; omega
                refine e_Ok.run (t' := (147, [(5, (0, 3)), (4, (0, 36 * a + 16)), (0, (1, 275)), (1, (0, w 329 (10000 * a + p))), (2, (0, p)), (3, (0, y3))], [(0, 3), (1, 275)], w)) 2 rfl ?_
                refine e_Ok.callV rfl (by omega) rfl rfl rfl rfl (c_369 (by omega) hT (by omega) (by omega) h96 h97 h98 hC hP (by omega) (by omega)) (fun r170 w171 h172 => ?_)
                obtain ⟨rfl, ⟨q173, q173S⟩, q173T, q173n, q173d, q173c⟩ := h172
                have f174 : e_fr (mMv t a) w w171 := e_fr.trans (e_fr.refl w) (e_fr.mono q173 (fun c k q => by exact Or.inl q))
                show e_Ok 20 elay ecode eI (d + 1) 380 (150, [(5, (0, 3)), (4, (0, 36 * a + 16)), (0, (1, 275)), (1, (0, w 329 (10000 * a + p))), (2, (0, p)), (3, (0, y3))], [], w171) _
                refine e_Ok.rets rfl rfl ?_
                exact ⟨rfl, f174, q173T, by omega, mMo.rel hMo (e_Has.mo hT) hCf (sRel.trans sRel.refl q173S) (fun c k q => q173 c k (moK_lv ht q)), Or.inl ⟨q173d, q173c⟩⟩
          · replace h164 : (y3 : Int) ≠ 0 := by have q : ¬ ((y3 : Int) = 0) := h164; omega
            have hfi := j94 (by omega)
            refine e_Ok.run (t' := (41, [(0, (1, 275)), (1, (0, w 329 (10000 * a + p))), (2, (0, p)), (3, (0, y3)), (4, (0, y4))], [(1, 275)], w)) 1 rfl ?_
            refine e_Ok.getr (z := 345) rfl (el_o rfl) rfl rfl (e_Has.eq hT rfl) (by omega) ?_
            refine e_Ok.run (t' := (46, [(0, (1, 275)), (1, (0, w 329 (10000 * a + p))), (2, (0, p)), (3, (0, y3)), (4, (0, y4))], [(0, y4), (1, 345)], w)) 1 rfl ?_
            have h175 := (hst y4 (by omega) (by omega))
            refine e_Ok.ald (z := w 345 y4) rfl (el_o rfl) rfl (by omega) rfl (by omega) ?_
            refine e_Ok.run (t' := (49, [(0, (1, 275)), (1, (0, w 329 (10000 * a + p))), (2, (0, p)), (3, (0, y3)), (4, (0, y4))], [(1, 275), (4, w 345 y4)], w)) 2 rfl ?_
            refine e_Ok.getr (z := 288) rfl (el_o rfl) rfl rfl (e_Has.eq hT rfl) (by omega) ?_
            refine e_Ok.run (t' := (55, [(0, (1, 275)), (1, (0, w 329 (10000 * a + p))), (2, (0, p)), (3, (0, y3)), (4, (0, y4))], [(1, 275), (0, 6), (1, 288), (4, w 345 y4)], w)) 2 rfl ?_
            refine e_Ok.getf (z := a) rfl (el_o rfl) rfl rfl h98 (by omega) ?_
            refine e_Ok.mul (z := 6 * a) rfl (by omega) (by omega) ?_
            refine e_Ok.run (t' := (61, [(0, (1, 275)), (1, (0, w 329 (10000 * a + p))), (2, (0, p)), (3, (0, y3)), (4, (0, y4))], [(0, y4), (0, 6 * a), (1, 288), (4, w 345 y4)], w)) 1 rfl ?_
            refine e_Ok.add (z := 6 * a + y4) rfl (by omega) (by omega) ?_
            have h176 := (e_Has.get hT (c := 288) (k := 6 * a + y4) (lo := (-100000)) (hi := 0) rfl (by decide))
            refine e_Ok.ald (z := w 288 (6 * a + y4)) rfl (el_o rfl) rfl (by omega) rfl (by omega) ?_
            refine e_Ok.run (t' := (65, [(0, (1, 275)), (1, (0, w 329 (10000 * a + p))), (2, (0, p)), (3, (0, y3)), (4, (0, y4))], [(1, 275), (4, w 288 (6 * a + y4)), (4, w 345 y4)], w)) 2 rfl ?_
            refine e_Ok.getr (z := 289) rfl (el_o rfl) rfl rfl (e_Has.eq hT rfl) (by omega) ?_
            refine e_Ok.run (t' := (71, [(0, (1, 275)), (1, (0, w 329 (10000 * a + p))), (2, (0, p)), (3, (0, y3)), (4, (0, y4))], [(1, 275), (0, 6), (1, 289), (4, w 288 (6 * a + y4)), (4, w 345 y4)], w)) 2 rfl ?_
            refine e_Ok.getf (z := a) rfl (el_o rfl) rfl rfl h98 (by omega) ?_
            refine e_Ok.mul (z := 6 * a) rfl (by omega) (by omega) ?_
            refine e_Ok.run (t' := (77, [(0, (1, 275)), (1, (0, w 329 (10000 * a + p))), (2, (0, p)), (3, (0, y3)), (4, (0, y4))], [(0, y4), (0, 6 * a), (1, 289), (4, w 288 (6 * a + y4)), (4, w 345 y4)], w)) 1 rfl ?_
            refine e_Ok.add (z := 6 * a + y4) rfl (by omega) (by omega) ?_
            have h177 := (e_Has.get hT (c := 289) (k := 6 * a + y4) (lo := 0) (hi := 100000) rfl (by decide))
            refine e_Ok.ald (z := w 289 (6 * a + y4)) rfl (el_o rfl) rfl (by omega) rfl (by omega) ?_
            refine e_Ok.run (t' := (80, [(0, (1, 275)), (1, (0, w 329 (10000 * a + p))), (2, (0, p)), (3, (0, y3)), (4, (0, y4))], [(4, w 289 (6 * a + y4)), (4, w 288 (6 * a + y4)), (4, w 345 y4)], w)) 1 rfl ?_
            refine e_Ok.callS rfl (by omega) rfl rfl (c_266) (fun r178 w179 h180 => ?_)
            obtain ⟨z181, rfl, rfl, q182⟩ := h180
            obtain ⟨rfl, q182⟩ | ⟨rfl, q182⟩ := q182
            · show e_Ok 20 elay ecode eI (d + 1) 380 (83, [(0, (1, 275)), (1, (0, w 329 (10000 * a + p))), (2, (0, p)), (3, (0, y3)), (4, (0, y4))], [(0, 1)], w) _
              refine e_Ok.run (t' := (84, [(3, (0, 1)), (0, (1, 275)), (1, (0, w 329 (10000 * a + p))), (2, (0, p)), (4, (0, y4))], [], w)) 1 rfl ?_
              refine e_Ok.inc (z := y4 + 1) rfl rfl (by omega) (by omega) ?_
              show e_Ok 20 elay ecode eI (d + 1) 380 (87, [(4, (0, y4 + 1)), (3, (0, 1)), (0, (1, 275)), (1, (0, w 329 (10000 * a + p))), (2, (0, p))], [], w) _
              refine e_Ok.run (t' := (22, [(4, (0, y4 + 1)), (3, (0, 1)), (0, (1, 275)), (1, (0, w 329 (10000 * a + p))), (2, (0, p))], [], w)) 1 rfl ?_
              refine e_Ok.sub eAlk (e_sub_of rfl ?_) (ih91 1 (y4 + 1) ⟨by omega, by omega, (fun _ => ⟨hfi.1, fun j g1 g2 => Decidable.byCases (p := j = y4) (fun e => by rw [e]; omega) (fun e => hfi.2 j g1 (by omega))⟩)⟩ (by omega))
              exact ⟨rfl, rfl, rfl, rfl, rfl, trivial⟩
            · show e_Ok 20 elay ecode eI (d + 1) 380 (83, [(0, (1, 275)), (1, (0, w 329 (10000 * a + p))), (2, (0, p)), (3, (0, y3)), (4, (0, y4))], [(0, 0)], w) _
              refine e_Ok.run (t' := (84, [(3, (0, 0)), (0, (1, 275)), (1, (0, w 329 (10000 * a + p))), (2, (0, p)), (4, (0, y4))], [], w)) 1 rfl ?_
              refine e_Ok.inc (z := y4 + 1) rfl rfl (by omega) (by omega) ?_
              show e_Ok 20 elay ecode eI (d + 1) 380 (87, [(4, (0, y4 + 1)), (3, (0, 0)), (0, (1, 275)), (1, (0, w 329 (10000 * a + p))), (2, (0, p))], [], w) _
              refine e_Ok.run (t' := (22, [(4, (0, y4 + 1)), (3, (0, 0)), (0, (1, 275)), (1, (0, w 329 (10000 * a + p))), (2, (0, p))], [], w)) 1 rfl ?_
              refine e_Ok.sub eAlk (e_sub_of rfl ?_) (ih91 0 (y4 + 1) ⟨by omega, by omega, (fun e => by omega)⟩ (by omega))
              exact ⟨rfl, rfl, rfl, rfl, rfl, trivial⟩
    refine e_Ok.sub eAlk (e_sub_of rfl ?_) (hL90 (7 + 1 : Int).toNat 1 0 ⟨by omega, by omega, (fun e => ⟨by omega, fun j g1 g2 => by omega⟩)⟩ (by omega))
    exact ⟨rfl, rfl, rfl, rfl, rfl, trivial⟩
end
