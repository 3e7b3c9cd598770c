noncomputable section
theorem c_412 {d : Nat} (hd : 21 ≤ d) {w : eW} (hT : e_Has mTy w) {a m : Int} {f : Int → Int} (hF : plF a m f) (hP : plC w a m f) {x : Int} (hx : 0 ≤ x ∧ x ≤ 1000) : e_Ok 20 elay ecode eI d 412 (0, [(0, (1, 275)), (1, (0, x))], [], w) (fun r w' => r = [] ∧ e_fr mTn1 w w' ∧ e_kn w' 323 0 (m - 1)) := by
  obtain ⟨d, rfl⟩ : ∃ e, d = e + 1 := ⟨d - 1, by omega⟩
  have hA := (e_Has.get hT (c := 275) (k := 10) (lo := 0) (hi := 4) rfl (by decide)).2
  have hFa := hF.1
  have hFm := hF.2.1
  have hFp := hF.2.2.2
  refine e_Ok.run (t' := (2, [(2, (0, 0)), (0, (1, 275)), (1, (0, x))], [], w)) 2 rfl ?_
  have hL1 : ∀ (nn : Nat) (y2 : Int) (v1 : eW), e_fr mTn1 w v1 ∧ (0 ≤ y2 ∧ y2 ≤ m) ∧ e_kn v1 323 0 (y2 - 1) → 7 - y2 < nn → e_Ok 20 elay ecode eI (d + 1) 412 (2, [(0, (1, 275)), (1, (0, x)), (2, (0, y2))], [], v1) (fun r w' => r = [] ∧ e_fr mTn1 w w' ∧ e_kn w' 323 0 (m - 1)) := by
    intro nn
    induction nn with
    | zero => intro y2 v1 hj hm; obtain ⟨j3, j4, j5⟩ := hj; exfalso; omega
    | succ nn ih2 =>
      intro y2 v1 hj hm
      obtain ⟨j3, j4, j5⟩ := hj
      refine e_Ok.run (t' := (4, [(0, (1, 275)), (1, (0, x)), (2, (0, y2))], [(1, 275), (0, y2)], v1)) 2 rfl ?_
      refine e_Ok.getr (z := 286) rfl (el_o rfl) rfl rfl ((j3 275 15 (by unfold mTn1; omega)).trans (e_Has.eq hT rfl)) (by omega) ?_
      refine e_Ok.run (t' := (8, [(0, (1, 275)), (1, (0, x)), (2, (0, y2))], [(1, 275), (1, 286), (0, y2)], v1)) 1 rfl ?_
      refine e_Ok.getf (z := a) rfl (el_o rfl) rfl rfl ((j3 275 110 (by unfold mTn1; omega)).trans hP.1) (by omega) ?_
      refine e_Ok.ald (z := m) rfl (el_o rfl) rfl (by omega) ((j3 286 a (by unfold mTn1; omega)).trans hP.2.1) (by omega) ?_
      refine e_Ok.if2 rfl (fun h6 => ?_) (fun h6 => ?_)
      · replace h6 : (y2 : Int) ≥ m := h6
        refine e_Ok.rets rfl rfl ?_
        exact ⟨rfl, j3, fun i g1 g2 => j5 i g1 (by omega)⟩
      · replace h6 : (y2 : Int) < m := by have q : ¬ ((y2 : Int) ≥ m) := h6; omega
        refine e_Ok.run (t' := (16, [(0, (1, 275)), (1, (0, x)), (2, (0, y2))], [(1, 275)], v1)) 1 rfl ?_
        refine e_Ok.getr (z := 323) rfl (el_o rfl) rfl rfl ((j3 275 57 (by unfold mTn1; omega)).trans (e_Has.eq hT rfl)) (by omega) ?_
        refine e_Ok.run (t' := (21, [(0, (1, 275)), (1, (0, x)), (2, (0, y2))], [(1, 275), (0, y2), (1, 323)], v1)) 2 rfl ?_
        refine e_Ok.getr (z := 348) rfl (el_o rfl) rfl rfl ((j3 275 105 (by unfold mTn1; omega)).trans (e_Has.eq hT rfl)) (by omega) ?_
        refine e_Ok.run (t' := (25, [(0, (1, 275)), (1, (0, x)), (2, (0, y2))], [(0, y2), (1, 348), (0, y2), (1, 323)], v1)) 1 rfl ?_
        have h7 := (hP.2.2.2.2.2.1 y2 (by omega) (by omega))
        refine e_Ok.ald (z := w 348 y2) rfl (el_o rfl) rfl (by omega) ((j3 348 y2 (by unfold mTn1; omega)).trans rfl) (by omega) ?_
        refine e_Ok.run (t' := (27, [(0, (1, 275)), (1, (0, x)), (2, (0, y2))], [(1, 275), (0, w 348 y2), (0, y2), (1, 323)], v1)) 1 rfl ?_
        have h8 := hP.2.2.2.1
        refine e_Ok.getf (z := w 275 111) rfl (el_o rfl) rfl rfl ((j3 275 111 (by unfold mTn1; omega)).trans rfl) (by omega) ?_
        refine e_Ok.run (t' := (33, [(0, (1, 275)), (1, (0, x)), (2, (0, y2))], [(0, y2), (0, x), (1, 275), (0, w 275 111), (0, w 348 y2), (0, y2), (1, 323)], v1)) 3 rfl ?_
        refine e_Ok.callV rfl (by omega) rfl rfl rfl rfl (c_410_f (mT_Tn1 j3 hT) (plC.fr hP hA (e_fr.mono j3 (fun c k q => tn_se q))).2.2.1 (by omega) (by omega) (by omega) hF.2.2.1) (fun r9 w10 h11 => ?_)
        obtain ⟨q12, rfl⟩ := h11
        obtain ⟨z13, hz13⟩ : ∃ z, z = dg f x y2.toNat := ⟨_, rfl⟩
        rw [← hz13] at q12; subst q12
        have z13b := (show 0 ≤ z13 ∧ z13 ≤ 200000 from by have h1 := hF.2.2.1 y2 (by omega) (by omega); have h2 := dg_in (f := f) (x := x) (j := y2.toNat) (by rw [show ((y2.toNat : Nat) : Int) = y2 by omega]; exact h1.1); rw [show ((y2.toNat : Nat) : Int) = y2 by omega] at h2; omega)
        show e_Ok 20 elay ecode eI (d + 1) 412 (36, [(0, (1, 275)), (1, (0, x)), (2, (0, y2))], [(0, z13), (0, w 275 111), (0, w 348 y2), (0, y2), (1, 323)], v1) _
        refine e_Ok.any rfl (eF_mul_any _ _) (fun z14 z14a z14b => ?_)
        refine e_Ok.any rfl (eF_add_any _ _) (fun z15 z15a z15b => ?_)
        refine e_Ok.ast rfl (el_o rfl) rfl rfl (by omega) ?_
        generalize hw16 : e_up v1 323 y2 z15 = w16
        have f17 : e_fr mTn1 w w16 := e_fr.up j3 hw16 (by unfold mTn1; omega)
        refine e_Ok.inc (z := y2 + 1) rfl rfl (by omega) (by omega) ?_
        show e_Ok 20 elay ecode eI (d + 1) 412 (42, [(2, (0, y2 + 1)), (0, (1, 275)), (1, (0, x))], [], w16) _
        refine e_Ok.run (t' := (2, [(2, (0, y2 + 1)), (0, (1, 275)), (1, (0, x))], [], w16)) 1 rfl ?_
        refine e_Ok.sub eAlk (e_sub_of rfl ?_) (ih2 (y2 + 1) w16 ⟨f17, by omega, (fun i g1 g2 => e_kn.ext (k := y2) j5 hw16 (by omega) (by omega) i g1 (by omega))⟩ (by omega))
        exact ⟨rfl, rfl, rfl, trivial⟩
  refine e_Ok.sub eAlk (e_sub_of rfl ?_) (hL1 (7 + 1 : Int).toNat 0 w ⟨e_fr.refl w, by omega, fun i g1 g2 => by omega⟩ (by omega))
  exact ⟨rfl, rfl, rfl, trivial⟩
theorem c_413 {d : Nat} (hd : 26 ≤ d) {w : eW} (hT : e_Has mTy w) {a m : Int} {f : Int → Int} (hF : plF a m f) (hP : plC w a m f) (k1 : e_kn w 323 0 (m - 1)) : e_Ok 20 elay ecode eI d 413 (0, [(0, (1, 275))], [], w) (fun r w' => ∃ z : Int, r = [(0, z)] ∧ e_fr mCl w w' ∧ 0 ≤ z ∧ z ≤ 1) := by
  obtain ⟨d, rfl⟩ : ∃ e, d = e + 1 := ⟨d - 1, by omega⟩
  have hA := (e_Has.get hT (c := 275) (k := 10) (lo := 0) (hi := 4) rfl (by decide)).2
  have hFa := hF.1
  have hFm := hF.2.1
  have hFp := hF.2.2.2
  refine e_Ok.run (t' := (2, [(0, (1, 275))], [(1, 275), (1, 275)], w)) 2 rfl ?_
  refine e_Ok.getf (z := a) rfl (el_o rfl) rfl rfl hP.1 (by omega) ?_
  refine e_Ok.run (t' := (6, [(0, (1, 275))], [(0, 1), (0, a), (1, 275)], w)) 1 rfl ?_
  refine e_Ok.callV rfl (by omega) rfl rfl rfl rfl (c_301_1 (by omega) hT hF.1 (by rw [hP.2.1]; exact k1)) (fun r1 w2 h3 => ?_)
  obtain ⟨rfl, q4, q4k⟩ := h3
  have f5 : e_fr mCl w w2 := e_fr.trans (e_fr.refl w) (e_fr.mono q4 (fun c k q => by unfold mPt at q; unfold mCl; omega))
  show e_Ok 20 elay ecode eI (d + 1) 413 (9, [(0, (1, 275))], [], w2) _
  refine e_Ok.run (t' := (11, [(0, (1, 275))], [(1, 275), (1, 275)], w2)) 2 rfl ?_
  refine e_Ok.getf (z := a) rfl (el_o rfl) rfl rfl ((q4 275 110 (by unfold mPt; omega)).trans hP.1) (by omega) ?_
  refine e_Ok.run (t' := (17, [(0, (1, 275))], [(1, 275), (0, 28), (0, a), (1, 275)], w2)) 2 rfl ?_
  have h6 := hP.2.2.2.2.1
  refine e_Ok.getf (z := w 275 112) rfl (el_o rfl) rfl rfl ((q4 275 112 (by unfold mPt; omega)).trans rfl) (by omega) ?_
  have q4e : w2 286 a = w 286 a := f5 286 a (by unfold mCl; omega)
  refine e_Ok.callV rfl (by omega) rfl rfl rfl rfl (c_317 (by omega) (mT_Cl f5 hT) hF.1 (by omega) (by rw [q4e]; exact q4k.1) (by rw [q4e]; exact q4k.2) (fun b g1 g2 => ((plC.fr hP hA (e_fr.mono f5 (fun c k q => cl_se q))).2.2.2.2.2.2 b g1 g2).2)) (fun r7 w8 h9 => ?_)
  obtain ⟨z11, rfl, q10, z11b⟩ := h9
  have f12 : e_fr mCl w w8 := e_fr.trans f5 (e_fr.mono q10 (fun c k q => by unfold mL at q; unfold mCl; omega))
  show e_Ok 20 elay ecode eI (d + 1) 413 (23, [(0, (1, 275))], [(0, z11)], w8) _
  refine e_Ok.if1 rfl (fun h13 => ?_) (fun h13 => ?_)
  · replace h13 : (z11 : Int) ≠ 0 := h13
    refine e_Ok.run (t' := (31, [(0, (1, 275))], [(0, 0)], w8)) 1 rfl ?_
    refine e_Ok.rets rfl rfl ?_
    exact ⟨_, rfl, f12, by decide, by decide⟩
  · replace h13 : (z11 : Int) = 0 := by have q : ¬ ((z11 : Int) ≠ 0) := h13; omega
    refine e_Ok.run (t' := (31, [(0, (1, 275))], [(0, 1)], w8)) 2 rfl ?_
    refine e_Ok.rets rfl rfl ?_
    exact ⟨_, rfl, f12, by decide, by decide⟩
theorem c_414 {d : Nat} (hd : 27 ≤ d) {w : eW} (hT : e_Has mTy w) {a m : Int} {f : Int → Int} (hF : plF a m f) (hP : plC w a m f) {n : Int} (hn : n ≤ 1000) {x : Int} (hx : 0 ≤ x ∧ x < n) (kf : e_kn w 351 0 (n - 1)) : e_Ok 20 elay ecode eI d 414 (0, [(0, (1, 275)), (1, (0, x))], [], w) (fun r w' => ∃ z : Int, r = [(0, z)] ∧ (0 ≤ z ∧ z ≤ 1) ∧ e_fr mFn w w' ∧ e_kn w' 351 0 (n - 1)) := by
  obtain ⟨d, rfl⟩ : ∃ e, d = e + 1 := ⟨d - 1, by omega⟩
  have hA := (e_Has.get hT (c := 275) (k := 10) (lo := 0) (hi := 4) rfl (by decide)).2
  have hFa := hF.1
  have hFm := hF.2.1
  have hFp := hF.2.2.2
  refine e_Ok.run (t' := (1, [(0, (1, 275)), (1, (0, x))], [(1, 275)], w)) 1 rfl ?_
  refine e_Ok.getr (z := 351) rfl (el_o rfl) rfl rfl (e_Has.eq hT rfl) (by omega) ?_
  refine e_Ok.run (t' := (5, [(0, (1, 275)), (1, (0, x))], [(0, x), (1, 351)], w)) 1 rfl ?_
  have h1 := (kf x (by omega) (by omega))
  refine e_Ok.ald (z := w 351 x) rfl (el_o rfl) rfl (by omega) rfl (by omega) ?_
  refine e_Ok.if1 rfl (fun h2 => ?_) (fun h2 => ?_)
  · replace h2 : (w 351 x : Int) ≠ 0 := h2
    refine e_Ok.run (t' := (33, [(0, (1, 275)), (1, (0, x))], [(1, 275)], w)) 1 rfl ?_
    refine e_Ok.getr (z := 351) rfl (el_o rfl) rfl rfl (e_Has.eq hT rfl) (by omega) ?_
    refine e_Ok.run (t' := (37, [(0, (1, 275)), (1, (0, x))], [(0, x), (1, 351)], w)) 1 rfl ?_
    refine e_Ok.ald (z := w 351 x) rfl (el_o rfl) rfl (by omega) rfl (by omega) ?_
    refine e_Ok.run (t' := (39, [(0, (1, 275)), (1, (0, x))], [(0, 1), (0, w 351 x)], w)) 1 rfl ?_
    refine e_Ok.if2 rfl (fun h3 => ?_) (fun h3 => ?_)
    · replace h3 : (w 351 x : Int) ≠ 1 := h3
      refine e_Ok.run (t' := (47, [(0, (1, 275)), (1, (0, x))], [(0, 0)], w)) 1 rfl ?_
      refine e_Ok.rets rfl rfl ?_
      exact ⟨_, rfl, by omega, (e_fr.refl w), kf⟩
    · replace h3 : (w 351 x : Int) = 1 := by have q : ¬ ((w 351 x : Int) ≠ 1) := h3; omega
      refine e_Ok.run (t' := (47, [(0, (1, 275)), (1, (0, x))], [(0, 1)], w)) 2 rfl ?_
      refine e_Ok.rets rfl rfl ?_
      exact ⟨_, rfl, by omega, (e_fr.refl w), kf⟩
  · replace h2 : (w 351 x : Int) = 0 := by have q : ¬ ((w 351 x : Int) ≠ 0) := h2; omega
    refine e_Ok.run (t' := (11, [(0, (1, 275)), (1, (0, x))], [(0, x), (1, 275)], w)) 2 rfl ?_
    refine e_Ok.callV rfl (by omega) rfl rfl rfl rfl (c_412 (by omega) hT hF hP (by omega)) (fun r4 w5 h6 => ?_)
    obtain ⟨rfl, q7, q7k⟩ := h6
    have f8 : e_fr mFn w w5 := e_fr.trans (e_fr.refl w) (e_fr.mono q7 (fun c k q => by exact Or.inr (Or.inl q)))
    show e_Ok 20 elay ecode eI (d + 1) 414 (14, [(0, (1, 275)), (1, (0, x))], [], w5) _
    refine e_Ok.run (t' := (15, [(0, (1, 275)), (1, (0, x))], [(1, 275)], w5)) 1 rfl ?_
    refine e_Ok.getr (z := 351) rfl (el_o rfl) rfl rfl ((q7 275 108 (by unfold mTn1; omega)).trans (e_Has.eq hT rfl)) (by omega) ?_
    refine e_Ok.run (t' := (20, [(0, (1, 275)), (1, (0, x))], [(1, 275), (0, x), (1, 351)], w5)) 2 rfl ?_
    refine e_Ok.callV rfl (by omega) rfl rfl rfl rfl (c_413 (by omega) (mT_Fn f8 hT) hF (plC.fr hP hA (e_fr.mono f8 (fun c k q => fn_se q))) q7k) (fun r9 w10 h11 => ?_)
    obtain ⟨z13, rfl, q12, z13b⟩ := h11
    have f14 : e_fr mFn w w10 := e_fr.trans f8 (e_fr.mono q12 (fun c k q => by exact Or.inl q))
    show e_Ok 20 elay ecode eI (d + 1) 414 (23, [(0, (1, 275)), (1, (0, x))], [(0, z13), (0, x), (1, 351)], w10) _
    refine e_Ok.if1 rfl (fun h15 => ?_) (fun h15 => ?_)
    · replace h15 : (z13 : Int) = 0 := h15
      refine e_Ok.run (t' := (31, [(0, (1, 275)), (1, (0, x))], [(0, 2), (0, x), (1, 351)], w10)) 1 rfl ?_
      refine e_Ok.ast rfl (el_o rfl) rfl rfl (by omega) ?_
      generalize hw16 : e_up w10 351 x 2 = w16
      have f17 : e_fr mFn w w16 := e_fr.up f14 hw16 (by unfold mFn mCl; omega)
      refine e_Ok.run (t' := (33, [(0, (1, 275)), (1, (0, x))], [(1, 275)], w16)) 1 rfl ?_
      refine e_Ok.getr (z := 351) rfl (el_o rfl) rfl rfl (by rw [← hw16]; exact (e_up_ne _ _ (Or.inl (by omega))).trans ((q12 275 108 (by unfold mCl; omega)).trans ((q7 275 108 (by unfold mTn1; omega)).trans (e_Has.eq hT rfl)))) (by omega) ?_
      refine e_Ok.run (t' := (37, [(0, (1, 275)), (1, (0, x))], [(0, x), (1, 351)], w16)) 1 rfl ?_
      refine e_Ok.ald (z := 2) rfl (el_o rfl) rfl (by omega) (by rw [← hw16]; exact e_up_eq _ _ _ _) (by omega) ?_
      refine e_Ok.run (t' := (39, [(0, (1, 275)), (1, (0, x))], [(0, 1), (0, 2)], w16)) 1 rfl ?_
      refine e_Ok.if2 rfl (fun h18 => ?_) (fun h18 => ?_)
      · replace h18 : (2 : Int) ≠ 1 := h18
        refine e_Ok.run (t' := (47, [(0, (1, 275)), (1, (0, x))], [(0, 0)], w16)) 1 rfl ?_
        refine e_Ok.rets rfl rfl ?_
        exact ⟨_, rfl, by omega, f17, (e_kn.upd (e_kn.fr q12 (fun k q => by unfold mCl at q; omega) (e_kn.fr q7 (fun k q => by unfold mTn1 at q; omega) kf)) hw16 (by omega))⟩
      · replace h18 : (2 : Int) = 1 := by have q : ¬ ((2 : Int) ≠ 1) := h18; omega
        exfalso; omega
    · replace h15 : (z13 : Int) ≠ 0 := by have q : ¬ ((z13 : Int) = 0) := h15; omega
      refine e_Ok.run (t' := (31, [(0, (1, 275)), (1, (0, x))], [(0, 1), (0, x), (1, 351)], w10)) 2 rfl ?_
      refine e_Ok.ast rfl (el_o rfl) rfl rfl (by omega) ?_
      generalize hw19 : e_up w10 351 x 1 = w19
      have f20 : e_fr mFn w w19 := e_fr.up f14 hw19 (by unfold mFn mCl; omega)
      refine e_Ok.run (t' := (33, [(0, (1, 275)), (1, (0, x))], [(1, 275)], w19)) 1 rfl ?_
      refine e_Ok.getr (z := 351) rfl (el_o rfl) rfl rfl (by rw [← hw19]; exact (e_up_ne _ _ (Or.inl (by omega))).trans ((q12 275 108 (by unfold mCl; omega)).trans ((q7 275 108 (by unfold mTn1; omega)).trans (e_Has.eq hT rfl)))) (by omega) ?_
      refine e_Ok.run (t' := (37, [(0, (1, 275)), (1, (0, x))], [(0, x), (1, 351)], w19)) 1 rfl ?_
      refine e_Ok.ald (z := 1) rfl (el_o rfl) rfl (by omega) (by rw [← hw19]; exact e_up_eq _ _ _ _) (by omega) ?_
      refine e_Ok.run (t' := (39, [(0, (1, 275)), (1, (0, x))], [(0, 1), (0, 1)], w19)) 1 rfl ?_
      refine e_Ok.if2 rfl (fun h21 => ?_) (fun h21 => ?_)
      · replace h21 : (1 : Int) ≠ 1 := h21
        exfalso; omega
      · replace h21 : (1 : Int) = 1 := by have q : ¬ ((1 : Int) ≠ 1) := h21; omega
        refine e_Ok.run (t' := (47, [(0, (1, 275)), (1, (0, x))], [(0, 1)], w19)) 2 rfl ?_
        refine e_Ok.rets rfl rfl ?_
        exact ⟨_, rfl, by omega, f20, (e_kn.upd (e_kn.fr q12 (fun k q => by unfold mCl at q; omega) (e_kn.fr q7 (fun k q => by unfold mTn1 at q; omega) kf)) hw19 (by omega))⟩
set_option maxHeartbeats 4000000 in
theorem c_415 {d : Nat} (hd : 28 ≤ d) {w : eW} (hT : e_Has mTy w) {a m : Int} {f : Int → Int} (hF : plF a m f) (hP : plC w a m f) {n : Int} (hn : n = prd f m.toNat) {x j : Int} (hj : 0 ≤ j ∧ j < m) (hx : 0 ≤ x) (hxj : x + prd f j.toNat < n) (kf : e_kn w 351 0 (n - 1)) (ke : e_kn w 352 0 (6 * n - 1)) : e_Ok 20 elay ecode eI d 415 (0, [(0, (1, 275)), (1, (0, x)), (2, (0, j))], [], w) (fun r w' => ∃ z : Int, r = [(0, z)] ∧ e_fr mFe w w' ∧ e_kn w' 351 0 (n - 1) ∧ e_kn w' 352 0 (6 * n - 1) ∧ edK w w' ∧ ((z = 1 ∧ w' 352 (6 * x + j) = 1) ∨ (z = 0 ∧ w' 352 (6 * x + j) ≠ 1))) := by
  obtain ⟨d, rfl⟩ : ∃ e, d = e + 1 := ⟨d - 1, by omega⟩
  have hA := (e_Has.get hT (c := 275) (k := 10) (lo := 0) (hi := 4) rfl (by decide)).2
  have hFa := hF.1
  have hFm := hF.2.1
  have hFp := hF.2.2.2
  have hn1 : 1 ≤ n ∧ n ≤ 1000 := by rw [hn]; exact prd_bd (by omega) ⟨by omega, Int.le_refl m⟩ hF.2.2.1 hFp
  have hpj := prd_bd (f := f) (j := j) (by omega) (by omega) hF.2.2.1 hFp
  refine e_Ok.run (t' := (3, [(0, (1, 275)), (1, (0, x)), (2, (0, j))], [(0, x), (0, 6)], w)) 2 rfl ?_
  refine e_Ok.mul (z := 6 * x) rfl (by omega) (by omega) ?_
  refine e_Ok.run (t' := (5, [(0, (1, 275)), (1, (0, x)), (2, (0, j))], [(0, j), (0, 6 * x)], w)) 1 rfl ?_
  refine e_Ok.add (z := 6 * x + j) rfl (by omega) (by omega) ?_
  refine e_Ok.run (t' := (8, [(3, (0, 6 * x + j)), (0, (1, 275)), (1, (0, x)), (2, (0, j))], [(1, 275)], w)) 2 rfl ?_
  refine e_Ok.getr (z := 352) rfl (el_o rfl) rfl rfl (e_Has.eq hT rfl) (by omega) ?_
  refine e_Ok.run (t' := (12, [(3, (0, 6 * x + j)), (0, (1, 275)), (1, (0, x)), (2, (0, j))], [(0, 6 * x + j), (1, 352)], w)) 1 rfl ?_
  have h1 := (ke (6 * x + j) (by omega) (by omega))
  refine e_Ok.ald (z := w 352 (6 * x + j)) rfl (el_o rfl) rfl (by omega) rfl (by omega) ?_
  refine e_Ok.if1 rfl (fun h2 => ?_) (fun h2 => ?_)
  · replace h2 : (w 352 (6 * x + j) : Int) ≠ 0 := h2
    refine e_Ok.run (t' := (111, [(3, (0, 6 * x + j)), (0, (1, 275)), (1, (0, x)), (2, (0, j))], [(1, 275)], w)) 1 rfl ?_
    refine e_Ok.getr (z := 352) rfl (el_o rfl) rfl rfl (e_Has.eq hT rfl) (by omega) ?_
    refine e_Ok.run (t' := (115, [(3, (0, 6 * x + j)), (0, (1, 275)), (1, (0, x)), (2, (0, j))], [(0, 6 * x + j), (1, 352)], w)) 1 rfl ?_
    refine e_Ok.ald (z := w 352 (6 * x + j)) rfl (el_o rfl) rfl (by omega) rfl (by omega) ?_
    refine e_Ok.run (t' := (117, [(3, (0, 6 * x + j)), (0, (1, 275)), (1, (0, x)), (2, (0, j))], [(0, 1), (0, w 352 (6 * x + j))], w)) 1 rfl ?_
    refine e_Ok.if2 rfl (fun h3 => ?_) (fun h3 => ?_)
    · replace h3 : (w 352 (6 * x + j) : Int) ≠ 1 := h3
      refine e_Ok.run (t' := (125, [(3, (0, 6 * x + j)), (0, (1, 275)), (1, (0, x)), (2, (0, j))], [(0, 0)], w)) 1 rfl ?_
      refine e_Ok.rets rfl rfl ?_
      have e4 : w 352 (6 * x + j) = w 352 (6 * x + j) := rfl
      exact ⟨_, rfl, (e_fr.refl w), kf, ke, (edK.same (fun e => rfl)), Or.inr ⟨rfl, by omega⟩⟩
    · replace h3 : (w 352 (6 * x + j) : Int) = 1 := by have q : ¬ ((w 352 (6 * x + j) : Int) ≠ 1) := h3; omega
      refine e_Ok.run (t' := (125, [(3, (0, 6 * x + j)), (0, (1, 275)), (1, (0, x)), (2, (0, j))], [(0, 1)], w)) 2 rfl ?_
      refine e_Ok.rets rfl rfl ?_
      have e5 : w 352 (6 * x + j) = w 352 (6 * x + j) := rfl
      exact ⟨_, rfl, (e_fr.refl w), kf, ke, (edK.same (fun e => rfl)), Or.inl ⟨rfl, by omega⟩⟩
  · replace h2 : (w 352 (6 * x + j) : Int) = 0 := by have q : ¬ ((w 352 (6 * x + j) : Int) ≠ 0) := h2; omega
    refine e_Ok.run (t' := (18, [(3, (0, 6 * x + j)), (0, (1, 275)), (1, (0, x)), (2, (0, j))], [(0, x), (1, 275)], w)) 2 rfl ?_
    refine e_Ok.callV rfl (by omega) rfl rfl rfl rfl (c_414 (by omega) hT hF hP (n := n) (by omega) (by omega) kf) (fun r6 w7 h8 => ?_)
    obtain ⟨z10, rfl, z10b, q9, q9k⟩ := h8
    have f11 : e_fr mFe w w7 := e_fr.trans (e_fr.refl w) (e_fr.mono q9 (fun c k q => by exact fn_fe q))
    show e_Ok 20 elay ecode eI (d + 1) 415 (21, [(3, (0, 6 * x + j)), (0, (1, 275)), (1, (0, x)), (2, (0, j))], [(0, z10)], w7) _
    refine e_Ok.if1 rfl (fun h12 => ?_) (fun h12 => ?_)
    · replace h12 : (z10 : Int) = 0 := h12
      refine e_Ok.run (t' := (47, [(4, (0, 0)), (3, (0, 6 * x + j)), (0, (1, 275)), (1, (0, x)), (2, (0, j))], [(0, 0)], w7)) 3 rfl ?_
      refine e_Ok.if1 rfl (fun h13 => ?_) (fun h13 => ?_)
      · replace h13 : (0 : Int) = 0 := h13
        refine e_Ok.run (t' := (95, [(4, (0, 0)), (3, (0, 6 * x + j)), (0, (1, 275)), (1, (0, x)), (2, (0, j))], [(1, 275)], w7)) 1 rfl ?_
        refine e_Ok.getr (z := 352) rfl (el_o rfl) rfl rfl ((q9 275 109 (by unfold mFn mCl; omega)).trans (e_Has.eq hT rfl)) (by omega) ?_
        refine e_Ok.run (t' := (101, [(4, (0, 0)), (3, (0, 6 * x + j)), (0, (1, 275)), (1, (0, x)), (2, (0, j))], [(0, 0), (0, 6 * x + j), (1, 352)], w7)) 2 rfl ?_
        refine e_Ok.if1 rfl (fun h14 => ?_) (fun h14 => ?_)
        · replace h14 : (0 : Int) = 0 := h14
          refine e_Ok.run (t' := (109, [(4, (0, 0)), (3, (0, 6 * x + j)), (0, (1, 275)), (1, (0, x)), (2, (0, j))], [(0, 2), (0, 6 * x + j), (1, 352)], w7)) 1 rfl ?_
          refine e_Ok.ast rfl (el_o rfl) rfl rfl (by omega) ?_
          generalize hw15 : e_up w7 352 (6 * x + j) 2 = w15
          have f16 : e_fr mFe w w15 := e_fr.up f11 hw15 (by unfold mFe mCl; omega)
          refine e_Ok.run (t' := (111, [(4, (0, 0)), (3, (0, 6 * x + j)), (0, (1, 275)), (1, (0, x)), (2, (0, j))], [(1, 275)], w15)) 1 rfl ?_
          refine e_Ok.getr (z := 352) rfl (el_o rfl) rfl rfl (by rw [← hw15]; exact (e_up_ne _ _ (Or.inl (by omega))).trans ((q9 275 109 (by unfold mFn mCl; omega)).trans (e_Has.eq hT rfl))) (by omega) ?_
          refine e_Ok.run (t' := (115, [(4, (0, 0)), (3, (0, 6 * x + j)), (0, (1, 275)), (1, (0, x)), (2, (0, j))], [(0, 6 * x + j), (1, 352)], w15)) 1 rfl ?_
          refine e_Ok.ald (z := 2) rfl (el_o rfl) rfl (by omega) (by rw [← hw15]; exact e_up_eq _ _ _ _) (by omega) ?_
          refine e_Ok.run (t' := (117, [(4, (0, 0)), (3, (0, 6 * x + j)), (0, (1, 275)), (1, (0, x)), (2, (0, j))], [(0, 1), (0, 2)], w15)) 1 rfl ?_
          refine e_Ok.if2 rfl (fun h17 => ?_) (fun h17 => ?_)
          · replace h17 : (2 : Int) ≠ 1 := h17
            refine e_Ok.run (t' := (125, [(4, (0, 0)), (3, (0, 6 * x + j)), (0, (1, 275)), (1, (0, x)), (2, (0, j))], [(0, 0)], w15)) 1 rfl ?_
            refine e_Ok.rets rfl rfl ?_
            have e18 : w15 352 (6 * x + j) = 2 := (by rw [← hw15]; exact e_up_eq _ _ _ _)
            exact ⟨_, rfl, f16, (e_kn.oth q9k hw15 (by decide)), (e_kn.upd (e_kn.fr q9 (fun k q => by unfold mFn mCl at q; omega) ke) hw15 (by omega)), (ed_up (fun e => Eq.trans (q9 352 e (by unfold mFn mCl; omega)) ((fun e => rfl) e)) (by omega) hw15), Or.inr ⟨rfl, by omega⟩⟩
          · replace h17 : (2 : Int) = 1 := by have q : ¬ ((2 : Int) ≠ 1) := h17; omega
            exfalso; omega
        · replace h14 : (0 : Int) ≠ 0 := by have q : ¬ ((0 : Int) = 0) := h14; omega
          exfalso; omega
      · replace h13 : (0 : Int) ≠ 0 := by have q : ¬ ((0 : Int) = 0) := h13; omega
        exfalso; omega
    · replace h12 : (z10 : Int) ≠ 0 := by have q : ¬ ((z10 : Int) = 0) := h12; omega
      refine e_Ok.run (t' := (28, [(3, (0, 6 * x + j)), (0, (1, 275)), (1, (0, x)), (2, (0, j))], [(0, j), (1, 275), (0, x), (1, 275)], w7)) 4 rfl ?_
      refine e_Ok.callV rfl (by omega) rfl rfl rfl rfl (c_411_f (mT_Fe f11 hT) (plC.fr hP hA (e_fr.mono f11 (fun c k q => fe_se q))).2.2.1 (by omega) (by omega) hF.2.2.1 hFp) (fun r19 w20 h21 => ?_)
      obtain ⟨q22, rfl⟩ := h21
      obtain ⟨z23, hz23⟩ : ∃ z, z = prd f j.toNat := ⟨_, rfl⟩
      rw [← hz23] at q22; subst q22
      have z23b := (show 1 ≤ z23 ∧ z23 ≤ 1000 from by rw [hz23]; exact prd_bd (by omega) (by omega) hF.2.2.1 hFp)
      show e_Ok 20 elay ecode eI (d + 1) 415 (31, [(3, (0, 6 * x + j)), (0, (1, 275)), (1, (0, x)), (2, (0, j))], [(0, z23), (0, x), (1, 275)], w7) _
      refine e_Ok.add (z := x + z23) rfl (by omega) (by omega) ?_
      refine e_Ok.callV rfl (by omega) rfl rfl rfl rfl (c_414 (by omega) (mT_Fe f11 hT) hF (plC.fr hP hA (e_fr.mono f11 (fun c k q => fe_se q))) (n := n) (by omega) (by omega) q9k) (fun r24 w25 h26 => ?_)
      obtain ⟨z28, rfl, z28b, q27, q27k⟩ := h26
      have f29 : e_fr mFe w w25 := e_fr.trans f11 (e_fr.mono q27 (fun c k q => by exact fn_fe q))
      show e_Ok 20 elay ecode eI (d + 1) 415 (35, [(3, (0, 6 * x + j)), (0, (1, 275)), (1, (0, x)), (2, (0, j))], [(0, z28)], w25) _
      refine e_Ok.if1 rfl (fun h30 => ?_) (fun h30 => ?_)
      · replace h30 : (z28 : Int) = 0 := h30
        refine e_Ok.run (t' := (47, [(4, (0, 0)), (3, (0, 6 * x + j)), (0, (1, 275)), (1, (0, x)), (2, (0, j))], [(0, 0)], w25)) 3 rfl ?_
        refine e_Ok.if1 rfl (fun h31 => ?_) (fun h31 => ?_)
        · replace h31 : (0 : Int) = 0 := h31
          refine e_Ok.run (t' := (95, [(4, (0, 0)), (3, (0, 6 * x + j)), (0, (1, 275)), (1, (0, x)), (2, (0, j))], [(1, 275)], w25)) 1 rfl ?_
          refine e_Ok.getr (z := 352) rfl (el_o rfl) rfl rfl ((q27 275 109 (by unfold mFn mCl; omega)).trans ((q9 275 109 (by unfold mFn mCl; omega)).trans (e_Has.eq hT rfl))) (by omega) ?_
          refine e_Ok.run (t' := (101, [(4, (0, 0)), (3, (0, 6 * x + j)), (0, (1, 275)), (1, (0, x)), (2, (0, j))], [(0, 0), (0, 6 * x + j), (1, 352)], w25)) 2 rfl ?_
          refine e_Ok.if1 rfl (fun h32 => ?_) (fun h32 => ?_)
          · replace h32 : (0 : Int) = 0 := h32
            refine e_Ok.run (t' := (109, [(4, (0, 0)), (3, (0, 6 * x + j)), (0, (1, 275)), (1, (0, x)), (2, (0, j))], [(0, 2), (0, 6 * x + j), (1, 352)], w25)) 1 rfl ?_
            refine e_Ok.ast rfl (el_o rfl) rfl rfl (by omega) ?_
            generalize hw33 : e_up w25 352 (6 * x + j) 2 = w33
            have f34 : e_fr mFe w w33 := e_fr.up f29 hw33 (by unfold mFe mCl; omega)
            refine e_Ok.run (t' := (111, [(4, (0, 0)), (3, (0, 6 * x + j)), (0, (1, 275)), (1, (0, x)), (2, (0, j))], [(1, 275)], w33)) 1 rfl ?_
            refine e_Ok.getr (z := 352) rfl (el_o rfl) rfl rfl (by rw [← hw33]; exact (e_up_ne _ _ (Or.inl (by omega))).trans ((q27 275 109 (by unfold mFn mCl; omega)).trans ((q9 275 109 (by unfold mFn mCl; omega)).trans (e_Has.eq hT rfl)))) (by omega) ?_
            refine e_Ok.run (t' := (115, [(4, (0, 0)), (3, (0, 6 * x + j)), (0, (1, 275)), (1, (0, x)), (2, (0, j))], [(0, 6 * x + j), (1, 352)], w33)) 1 rfl ?_
            refine e_Ok.ald (z := 2) rfl (el_o rfl) rfl (by omega) (by rw [← hw33]; exact e_up_eq _ _ _ _) (by omega) ?_
            refine e_Ok.run (t' := (117, [(4, (0, 0)), (3, (0, 6 * x + j)), (0, (1, 275)), (1, (0, x)), (2, (0, j))], [(0, 1), (0, 2)], w33)) 1 rfl ?_
            refine e_Ok.if2 rfl (fun h35 => ?_) (fun h35 => ?_)
            · replace h35 : (2 : Int) ≠ 1 := h35
              refine e_Ok.run (t' := (125, [(4, (0, 0)), (3, (0, 6 * x + j)), (0, (1, 275)), (1, (0, x)), (2, (0, j))], [(0, 0)], w33)) 1 rfl ?_
              refine e_Ok.rets rfl rfl ?_
              have e36 : w33 352 (6 * x + j) = 2 := (by rw [← hw33]; exact e_up_eq _ _ _ _)
              exact ⟨_, rfl, f34, (e_kn.oth q27k hw33 (by decide)), (e_kn.upd (e_kn.fr q27 (fun k q => by unfold mFn mCl at q; omega) (e_kn.fr q9 (fun k q => by unfold mFn mCl at q; omega) ke)) hw33 (by omega)), (ed_up (fun e => Eq.trans (q27 352 e (by unfold mFn mCl; omega)) ((fun e => Eq.trans (q9 352 e (by unfold mFn mCl; omega)) ((fun e => rfl) e)) e)) (by omega) hw33), Or.inr ⟨rfl, by omega⟩⟩
            · replace h35 : (2 : Int) = 1 := by have q : ¬ ((2 : Int) ≠ 1) := h35; omega
              exfalso; omega
          · replace h32 : (0 : Int) ≠ 0 := by have q : ¬ ((0 : Int) = 0) := h32; omega
            exfalso; omega
        · replace h31 : (0 : Int) ≠ 0 := by have q : ¬ ((0 : Int) = 0) := h31; omega
          exfalso; omega
      · replace h30 : (z28 : Int) ≠ 0 := by have q : ¬ ((z28 : Int) = 0) := h30; omega
        refine e_Ok.run (t' := (47, [(4, (0, 1)), (3, (0, 6 * x + j)), (0, (1, 275)), (1, (0, x)), (2, (0, j))], [(0, 1)], w25)) 4 rfl ?_
        refine e_Ok.if1 rfl (fun h37 => ?_) (fun h37 => ?_)
        · replace h37 : (1 : Int) = 0 := h37
          exfalso; omega
        · replace h37 : (1 : Int) ≠ 0 := by have q : ¬ ((1 : Int) = 0) := h37; omega
          refine e_Ok.run (t' := (52, [(4, (0, 1)), (3, (0, 6 * x + j)), (0, (1, 275)), (1, (0, x)), (2, (0, j))], [(0, x), (1, 275)], w25)) 2 rfl ?_
          refine e_Ok.callV rfl (by omega) rfl rfl rfl rfl (c_412 (by omega) (mT_Fe f29 hT) hF (plC.fr hP hA (e_fr.mono f29 (fun c k q => fe_se q))) (by omega)) (fun r38 w40 h41 => ?_)
          obtain ⟨rfl, q42, q42k⟩ := h41
          have f43 : e_fr mFe w w40 := e_fr.trans f29 (e_fr.mono q42 (fun c k q => by exact Or.inr (Or.inl q)))
          show e_Ok 20 elay ecode eI (d + 1) 415 (55, [(4, (0, 1)), (3, (0, 6 * x + j)), (0, (1, 275)), (1, (0, x)), (2, (0, j))], [], w40) _
          refine e_Ok.run (t' := (58, [(5, (0, 1)), (4, (0, 1)), (3, (0, 6 * x + j)), (0, (1, 275)), (1, (0, x)), (2, (0, j))], [], w40)) 2 rfl ?_
          have hL44 : ∀ (nn : Nat) (y4 : Int) (y5 : Int) (v1 : eW), e_fr mFe w v1 ∧ (0 ≤ y4 ∧ y4 ≤ 1) ∧ (1 ≤ y5 ∧ y5 ≤ 16) ∧ e_kn v1 323 0 (m - 1) ∧ e_kn v1 351 0 (n - 1) ∧ (∀ e, v1 352 e = w 352 e) → 17 - y5 < nn → e_Ok 20 elay ecode eI (d + 1) 415 (58, [(0, (1, 275)), (1, (0, x)), (2, (0, j)), (3, (0, 6 * x + j)), (4, (0, y4)), (5, (0, y5))], [], v1) (fun r w' => ∃ z : Int, r = [(0, z)] ∧ e_fr mFe w w' ∧ e_kn w' 351 0 (n - 1) ∧ e_kn w' 352 0 (6 * n - 1) ∧ edK w w' ∧ ((z = 1 ∧ w' 352 (6 * x + j) = 1) ∨ (z = 0 ∧ w' 352 (6 * x + j) ≠ 1))) := by
            intro nn
            induction nn with
            | zero => intro y4 y5 v1 hj hm; obtain ⟨j46, j47, j48, j49, j50, j51⟩ := hj; exfalso; omega
            | succ nn ih45 =>
              intro y4 y5 v1 hj hm
              obtain ⟨j46, j47, j48, j49, j50, j51⟩ := hj
              refine e_Ok.run (t' := (61, [(0, (1, 275)), (1, (0, x)), (2, (0, j)), (3, (0, 6 * x + j)), (4, (0, y4)), (5, (0, y5))], [(1, 275), (0, y5)], v1)) 2 rfl ?_
              have h52 := hP.2.2.2.1
              refine e_Ok.getf (z := w 275 111) rfl (el_o rfl) rfl rfl ((j46 275 111 (by unfold mFe mCl; omega)).trans rfl) (by omega) ?_
              refine e_Ok.if2 rfl (fun h53 => ?_) (fun h53 => ?_)
              · replace h53 : (y5 : Int) ≥ w 275 111 := h53
                refine e_Ok.run (t' := (95, [(0, (1, 275)), (1, (0, x)), (2, (0, j)), (3, (0, 6 * x + j)), (4, (0, y4)), (5, (0, y5))], [(1, 275)], v1)) 1 rfl ?_
                refine e_Ok.getr (z := 352) rfl (el_o rfl) rfl rfl ((j46 275 109 (by unfold mFe mCl; omega)).trans (e_Has.eq hT rfl)) (by omega) ?_
                refine e_Ok.run (t' := (101, [(0, (1, 275)), (1, (0, x)), (2, (0, j)), (3, (0, 6 * x + j)), (4, (0, y4)), (5, (0, y5))], [(0, y4), (0, 6 * x + j), (1, 352)], v1)) 2 rfl ?_
                refine e_Ok.if1 rfl (fun h54 => ?_) (fun h54 => ?_)
                · replace h54 : (y4 : Int) = 0 := h54
                  refine e_Ok.run (t' := (109, [(0, (1, 275)), (1, (0, x)), (2, (0, j)), (3, (0, 6 * x + j)), (4, (0, y4)), (5, (0, y5))], [(0, 2), (0, 6 * x + j), (1, 352)], v1)) 1 rfl ?_
                  refine e_Ok.ast rfl (el_o rfl) rfl rfl (by omega) ?_
                  generalize hw55 : e_up v1 352 (6 * x + j) 2 = w55
                  have f56 : e_fr mFe w w55 := e_fr.up j46 hw55 (by unfold mFe mCl; omega)
                  refine e_Ok.run (t' := (111, [(0, (1, 275)), (1, (0, x)), (2, (0, j)), (3, (0, 6 * x + j)), (4, (0, y4)), (5, (0, y5))], [(1, 275)], w55)) 1 rfl ?_
                  refine e_Ok.getr (z := 352) rfl (el_o rfl) rfl rfl (by rw [← hw55]; exact (e_up_ne _ _ (Or.inl (by omega))).trans ((j46 275 109 (by unfold mFe mCl; omega)).trans (e_Has.eq hT rfl))) (by omega) ?_
                  refine e_Ok.run (t' := (115, [(0, (1, 275)), (1, (0, x)), (2, (0, j)), (3, (0, 6 * x + j)), (4, (0, y4)), (5, (0, y5))], [(0, 6 * x + j), (1, 352)], w55)) 1 rfl ?_
                  refine e_Ok.ald (z := 2) rfl (el_o rfl) rfl (by omega) (by rw [← hw55]; exact e_up_eq _ _ _ _) (by omega) ?_
                  refine e_Ok.run (t' := (117, [(0, (1, 275)), (1, (0, x)), (2, (0, j)), (3, (0, 6 * x + j)), (4, (0, y4)), (5, (0, y5))], [(0, 1), (0, 2)], w55)) 1 rfl ?_
                  refine e_Ok.if2 rfl (fun h57 => ?_) (fun h57 => ?_)
                  · replace h57 : (2 : Int) ≠ 1 := h57
                    refine e_Ok.run (t' := (125, [(0, (1, 275)), (1, (0, x)), (2, (0, j)), (3, (0, 6 * x + j)), (4, (0, y4)), (5, (0, y5))], [(0, 0)], w55)) 1 rfl ?_
                    refine e_Ok.rets rfl rfl ?_
                    have e58 : w55 352 (6 * x + j) = 2 := (by rw [← hw55]; exact e_up_eq _ _ _ _)
                    exact ⟨_, rfl, f56, (e_kn.oth j50 hw55 (by decide)), (e_kn.upd (fun i g1 g2 => by rw [j51 i]; exact ke i g1 g2) hw55 (by omega)), (ed_up j51 (by omega) hw55), Or.inr ⟨rfl, by omega⟩⟩
                  · replace h57 : (2 : Int) = 1 := by have q : ¬ ((2 : Int) ≠ 1) := h57; omega
                    exfalso; omega
                · replace h54 : (y4 : Int) ≠ 0 := by have q : ¬ ((y4 : Int) = 0) := h54; omega
                  refine e_Ok.run (t' := (109, [(0, (1, 275)), (1, (0, x)), (2, (0, j)), (3, (0, 6 * x + j)), (4, (0, y4)), (5, (0, y5))], [(0, 1), (0, 6 * x + j), (1, 352)], v1)) 2 rfl ?_
                  refine e_Ok.ast rfl (el_o rfl) rfl rfl (by omega) ?_
                  generalize hw59 : e_up v1 352 (6 * x + j) 1 = w59
                  have f60 : e_fr mFe w w59 := e_fr.up j46 hw59 (by unfold mFe mCl; omega)
                  refine e_Ok.run (t' := (111, [(0, (1, 275)), (1, (0, x)), (2, (0, j)), (3, (0, 6 * x + j)), (4, (0, y4)), (5, (0, y5))], [(1, 275)], w59)) 1 rfl ?_
                  refine e_Ok.getr (z := 352) rfl (el_o rfl) rfl rfl (by rw [← hw59]; exact (e_up_ne _ _ (Or.inl (by omega))).trans ((j46 275 109 (by unfold mFe mCl; omega)).trans (e_Has.eq hT rfl))) (by omega) ?_
                  refine e_Ok.run (t' := (115, [(0, (1, 275)), (1, (0, x)), (2, (0, j)), (3, (0, 6 * x + j)), (4, (0, y4)), (5, (0, y5))], [(0, 6 * x + j), (1, 352)], w59)) 1 rfl ?_
                  refine e_Ok.ald (z := 1) rfl (el_o rfl) rfl (by omega) (by rw [← hw59]; exact e_up_eq _ _ _ _) (by omega) ?_
                  refine e_Ok.run (t' := (117, [(0, (1, 275)), (1, (0, x)), (2, (0, j)), (3, (0, 6 * x + j)), (4, (0, y4)), (5, (0, y5))], [(0, 1), (0, 1)], w59)) 1 rfl ?_
                  refine e_Ok.if2 rfl (fun h61 => ?_) (fun h61 => ?_)
                  · replace h61 : (1 : Int) ≠ 1 := h61
                    exfalso; omega
                  · replace h61 : (1 : Int) = 1 := by have q : ¬ ((1 : Int) ≠ 1) := h61; omega
                    refine e_Ok.run (t' := (125, [(0, (1, 275)), (1, (0, x)), (2, (0, j)), (3, (0, 6 * x + j)), (4, (0, y4)), (5, (0, y5))], [(0, 1)], w59)) 2 rfl ?_
                    refine e_Ok.rets rfl rfl ?_
                    have e62 : w59 352 (6 * x + j) = 1 := (by rw [← hw59]; exact e_up_eq _ _ _ _)
                    exact ⟨_, rfl, f60, (e_kn.oth j50 hw59 (by decide)), (e_kn.upd (fun i g1 g2 => by rw [j51 i]; exact ke i g1 g2) hw59 (by omega)), (ed_up j51 (by omega) hw59), Or.inl ⟨rfl, by omega⟩⟩
              · replace h53 : (y5 : Int) < w 275 111 := by have q : ¬ ((y5 : Int) ≥ w 275 111) := h53; omega
                refine e_Ok.run (t' := (69, [(0, (1, 275)), (1, (0, x)), (2, (0, j)), (3, (0, 6 * x + j)), (4, (0, y4)), (5, (0, y5))], [(0, y4)], v1)) 1 rfl ?_
                refine e_Ok.if1 rfl (fun h63 => ?_) (fun h63 => ?_)
                · replace h63 : (y4 : Int) = 0 := h63
                  refine e_Ok.run (t' := (95, [(0, (1, 275)), (1, (0, x)), (2, (0, j)), (3, (0, 6 * x + j)), (4, (0, y4)), (5, (0, y5))], [(1, 275)], v1)) 1 rfl ?_
                  refine e_Ok.getr (z := 352) rfl (el_o rfl) rfl rfl ((j46 275 109 (by unfold mFe mCl; omega)).trans (e_Has.eq hT rfl)) (by omega) ?_
                  refine e_Ok.run (t' := (101, [(0, (1, 275)), (1, (0, x)), (2, (0, j)), (3, (0, 6 * x + j)), (4, (0, y4)), (5, (0, y5))], [(0, y4), (0, 6 * x + j), (1, 352)], v1)) 2 rfl ?_
                  refine e_Ok.if1 rfl (fun h64 => ?_) (fun h64 => ?_)
                  · replace h64 : (y4 : Int) = 0 := h64
                    refine e_Ok.run (t' := (109, [(0, (1, 275)), (1, (0, x)), (2, (0, j)), (3, (0, 6 * x + j)), (4, (0, y4)), (5, (0, y5))], [(0, 2), (0, 6 * x + j), (1, 352)], v1)) 1 rfl ?_
                    refine e_Ok.ast rfl (el_o rfl) rfl rfl (by omega) ?_
                    generalize hw65 : e_up v1 352 (6 * x + j) 2 = w65
                    have f66 : e_fr mFe w w65 := e_fr.up j46 hw65 (by unfold mFe mCl; omega)
                    refine e_Ok.run (t' := (111, [(0, (1, 275)), (1, (0, x)), (2, (0, j)), (3, (0, 6 * x + j)), (4, (0, y4)), (5, (0, y5))], [(1, 275)], w65)) 1 rfl ?_
                    refine e_Ok.getr (z := 352) rfl (el_o rfl) rfl rfl (by rw [← hw65]; exact (e_up_ne _ _ (Or.inl (by omega))).trans ((j46 275 109 (by unfold mFe mCl; omega)).trans (e_Has.eq hT rfl))) (by omega) ?_
                    refine e_Ok.run (t' := (115, [(0, (1, 275)), (1, (0, x)), (2, (0, j)), (3, (0, 6 * x + j)), (4, (0, y4)), (5, (0, y5))], [(0, 6 * x + j), (1, 352)], w65)) 1 rfl ?_
                    refine e_Ok.ald (z := 2) rfl (el_o rfl) rfl (by omega) (by rw [← hw65]; exact e_up_eq _ _ _ _) (by omega) ?_
                    refine e_Ok.run (t' := (117, [(0, (1, 275)), (1, (0, x)), (2, (0, j)), (3, (0, 6 * x + j)), (4, (0, y4)), (5, (0, y5))], [(0, 1), (0, 2)], w65)) 1 rfl ?_
                    refine e_Ok.if2 rfl (fun h67 => ?_) (fun h67 => ?_)
                    · replace h67 : (2 : Int) ≠ 1 := h67
                      refine e_Ok.run (t' := (125, [(0, (1, 275)), (1, (0, x)), (2, (0, j)), (3, (0, 6 * x + j)), (4, (0, y4)), (5, (0, y5))], [(0, 0)], w65)) 1 rfl ?_
                      refine e_Ok.rets rfl rfl ?_
                      have e68 : w65 352 (6 * x + j) = 2 := (by rw [← hw65]; exact e_up_eq _ _ _ _)
                      exact ⟨_, rfl, f66, (e_kn.oth j50 hw65 (by decide)), (e_kn.upd (fun i g1 g2 => by rw [j51 i]; exact ke i g1 g2) hw65 (by omega)), (ed_up j51 (by omega) hw65), Or.inr ⟨rfl, by omega⟩⟩
                    · replace h67 : (2 : Int) = 1 := by have q : ¬ ((2 : Int) ≠ 1) := h67; omega
                      exfalso; omega
                  · replace h64 : (y4 : Int) ≠ 0 := by have q : ¬ ((y4 : Int) = 0) := h64; omega
                    exfalso; omega
                · replace h63 : (y4 : Int) ≠ 0 := by have q : ¬ ((y4 : Int) = 0) := h63; omega
                  refine e_Ok.run (t' := (73, [(0, (1, 275)), (1, (0, x)), (2, (0, j)), (3, (0, 6 * x + j)), (4, (0, y4)), (5, (0, y5))], [(1, 275)], v1)) 1 rfl ?_
                  refine e_Ok.getr (z := 323) rfl (el_o rfl) rfl rfl ((j46 275 57 (by unfold mFe mCl; omega)).trans (e_Has.eq hT rfl)) (by omega) ?_
                  refine e_Ok.run (t' := (78, [(0, (1, 275)), (1, (0, x)), (2, (0, j)), (3, (0, 6 * x + j)), (4, (0, y4)), (5, (0, y5))], [(0, j), (1, 323), (0, j), (1, 323)], v1)) 2 rfl ?_
                  have h69 := (j49 j (by omega) (by omega))
                  refine e_Ok.ald (z := v1 323 j) rfl (el_o rfl) rfl (by omega) rfl (by omega) ?_
                  refine e_Ok.run (t' := (80, [(0, (1, 275)), (1, (0, x)), (2, (0, j)), (3, (0, 6 * x + j)), (4, (0, y4)), (5, (0, y5))], [(0, 1), (0, v1 323 j), (0, j), (1, 323)], v1)) 1 rfl ?_
                  refine e_Ok.any rfl (eF_add_any _ _) (fun z70 z70a z70b => ?_)
                  refine e_Ok.ast rfl (el_o rfl) rfl rfl (by omega) ?_
                  generalize hw71 : e_up v1 323 j z70 = w71
                  have f72 : e_fr mFe w w71 := e_fr.up j46 hw71 (by unfold mFe mCl; omega)
                  refine e_Ok.run (t' := (83, [(0, (1, 275)), (1, (0, x)), (2, (0, j)), (3, (0, 6 * x + j)), (4, (0, y4)), (5, (0, y5))], [(1, 275)], w71)) 1 rfl ?_
                  refine e_Ok.callV rfl (by omega) rfl rfl rfl rfl (c_413 (by omega) (mT_Fe f72 hT) hF (plC.fr hP hA (e_fr.mono f72 (fun c k q => fe_se q))) (e_kn.upd j49 hw71 (by omega))) (fun r73 w74 h75 => ?_)
                  obtain ⟨z77, rfl, q76, z77b⟩ := h75
                  have f78 : e_fr mFe w w74 := e_fr.trans f72 (e_fr.mono q76 (fun c k q => by exact Or.inl q))
                  show e_Ok 20 elay ecode eI (d + 1) 415 (86, [(0, (1, 275)), (1, (0, x)), (2, (0, j)), (3, (0, 6 * x + j)), (4, (0, y4)), (5, (0, y5))], [(0, z77)], w74) _
                  refine e_Ok.run (t' := (88, [(4, (0, z77)), (0, (1, 275)), (1, (0, x)), (2, (0, j)), (3, (0, 6 * x + j)), (5, (0, y5))], [], w74)) 1 rfl ?_
                  refine e_Ok.inc (z := y5 + 1) rfl rfl (by omega) (by omega) ?_
                  show e_Ok 20 elay ecode eI (d + 1) 415 (91, [(5, (0, y5 + 1)), (4, (0, z77)), (0, (1, 275)), (1, (0, x)), (2, (0, j)), (3, (0, 6 * x + j))], [], w74) _
                  refine e_Ok.run (t' := (58, [(5, (0, y5 + 1)), (4, (0, z77)), (0, (1, 275)), (1, (0, x)), (2, (0, j)), (3, (0, 6 * x + j))], [], w74)) 1 rfl ?_
                  refine e_Ok.sub eAlk (e_sub_of rfl ?_) (ih45 z77 (y5 + 1) w74 ⟨f78, by omega, by omega, (e_kn.fr q76 (fun k q => by unfold mCl at q; omega) (e_kn.upd j49 hw71 (by omega))), (e_kn.fr q76 (fun k q => by unfold mCl at q; omega) (e_kn.oth j50 hw71 (by decide))), (fun e => Eq.trans (q76 352 e (by unfold mCl; omega)) ((fun e => Eq.trans (show w71 352 e = v1 352 e from by rw [← hw71]; exact e_up_ne _ _ (Or.inl (by decide))) (j51 e)) e))⟩ (by omega))
                  exact ⟨rfl, rfl, rfl, rfl, rfl, rfl, trivial⟩
          refine e_Ok.sub eAlk (e_sub_of rfl ?_) (hL44 (17 + 1 : Int).toNat 1 1 w40 ⟨f43, by omega, by omega, q42k, (e_kn.fr q42 (fun k q => by unfold mTn1 at q; omega) q27k), (fun e => Eq.trans (q42 352 e (by unfold mTn1; omega)) ((fun e => Eq.trans (q27 352 e (by unfold mFn mCl; omega)) ((fun e => Eq.trans (q9 352 e (by unfold mFn mCl; omega)) ((fun e => rfl) e)) e)) e))⟩ (by omega))
          exact ⟨rfl, rfl, rfl, rfl, rfl, rfl, trivial⟩
set_option maxHeartbeats 4000000 in
theorem c_416 {d : Nat} (hd : 29 ≤ d) {w : eW} (hT : e_Has mTy w) {a m : Int} {f : Int → Int} (hF : plF a m f) (hP : plC w a m f) {n : Int} (hn : n = prd f m.toNat) {x s : Int} (hx : 0 ≤ x ∧ x < n) (hs : 0 ≤ s ∧ s < 2 * m) (kf : e_kn w 351 0 (n - 1)) (ke : e_kn w 352 0 (6 * n - 1)) : e_Ok 20 elay ecode eI d 416 (0, [(0, (1, 275)), (1, (0, x)), (2, (0, s))], [], w) (fun r w' => ∃ z : Int, r = [(0, z)] ∧ e_fr mFe w w' ∧ e_kn w' 351 0 (n - 1) ∧ e_kn w' 352 0 (6 * n - 1) ∧ edK w w' ∧ ((z = -1 ∧ ∀ y, ¬ lnk w f x y s) ∨ ((0 ≤ z ∧ z < n) ∧ lnk w' f x z s ∧ ∀ y, lnk w f x y s → y = z))) := by
  obtain ⟨d, rfl⟩ : ∃ e, d = e + 1 := ⟨d - 1, by omega⟩
  have hA := (e_Has.get hT (c := 275) (k := 10) (lo := 0) (hi := 4) rfl (by decide)).2
  have hFa := hF.1
  have hFm := hF.2.1
  have hFp := hF.2.2.2
  have hn1 : 1 ≤ n ∧ n ≤ 1000 := by rw [hn]; exact prd_bd (by omega) ⟨by omega, Int.le_refl m⟩ hF.2.2.1 hFp
  refine e_Ok.run (t' := (2, [(0, (1, 275)), (1, (0, x)), (2, (0, s))], [(0, 2), (0, s)], w)) 2 rfl ?_
  refine e_Ok.divn (fun z1 hz1 => ?_) rfl (by omega) (by omega)
  replace hz1 : z1 = s / 2 := hz1
  have z1r : 0 ≤ z1 ∧ z1 ≤ 5 := by omega
  refine e_Ok.run (t' := (7, [(3, (0, z1)), (0, (1, 275)), (1, (0, x)), (2, (0, s))], [(0, z1), (0, x), (1, 275)], w)) 4 rfl ?_
  refine e_Ok.callV rfl (by omega) rfl rfl rfl rfl (c_410_f hT hP.2.2.1 (by omega) (by omega) (by omega) hF.2.2.1) (fun r2 w3 h4 => ?_)
  obtain ⟨q5, rfl⟩ := h4
  obtain ⟨z6, hz6⟩ : ∃ z, z = dg f x z1.toNat := ⟨_, rfl⟩
  rw [← hz6] at q5; subst q5
  have z6b := (show 0 ≤ z6 ∧ z6 ≤ 200000 from by have h1 := hF.2.2.1 z1 (by omega) (by omega); have h2 := dg_in (f := f) (x := x) (j := z1.toNat) (by rw [show ((z1.toNat : Nat) : Int) = z1 by omega]; exact h1.1); rw [show ((z1.toNat : Nat) : Int) = z1 by omega] at h2; omega)
  show e_Ok 20 elay ecode eI (d + 1) 416 (10, [(3, (0, z1)), (0, (1, 275)), (1, (0, x)), (2, (0, s))], [(0, z6)], w) _
  refine e_Ok.run (t' := (12, [(4, (0, z6)), (3, (0, z1)), (0, (1, 275)), (1, (0, x)), (2, (0, s))], [], w)) 1 rfl ?_
  have hfj := hF.2.2.1 z1 (by omega) (by omega)
  have hsj : z1 = s / 2 := by omega
  refine e_Ok.run (t' := (14, [(4, (0, z6)), (3, (0, z1)), (0, (1, 275)), (1, (0, x)), (2, (0, s))], [(0, 2), (0, s)], w)) 2 rfl ?_
  refine e_Ok.remn (fun z7 hz7 => ?_) rfl (by omega) (by omega)
  replace hz7 : z7 = s % 2 := hz7
  have z7r : 0 ≤ z7 ∧ z7 ≤ 1 := by omega
  refine e_Ok.if1 rfl (fun h8 => ?_) (fun h8 => ?_)
  · replace h8 : (z7 : Int) ≠ 0 := h8
    refine e_Ok.run (t' := (54, [(4, (0, z6)), (3, (0, z1)), (0, (1, 275)), (1, (0, x)), (2, (0, s))], [(0, z6)], w)) 1 rfl ?_
    refine e_Ok.if1 rfl (fun h9 => ?_) (fun h9 => ?_)
    · replace h9 : (z6 : Int) ≤ 0 := h9
      refine e_Ok.run (t' := (83, [(4, (0, z6)), (3, (0, z1)), (0, (1, 275)), (1, (0, x)), (2, (0, s))], [(0, (-1))], w)) 1 rfl ?_
      refine e_Ok.rets rfl rfl ?_
      exact ⟨_, rfl, (e_fr.refl w), kf, ke, (edK.same (fun e => rfl)), Or.inl ⟨rfl, (bs_dn_no1 (by omega) (by rw [← hsj, ← hz6]; omega))⟩⟩
    · replace h9 : (z6 : Int) > 0 := by have q : ¬ ((z6 : Int) ≤ 0) := h9; omega
      refine e_Ok.run (t' := (61, [(4, (0, z6)), (3, (0, z1)), (0, (1, 275)), (1, (0, x)), (2, (0, s))], [(0, z1), (1, 275), (0, x), (1, 275)], w)) 4 rfl ?_
      refine e_Ok.callV rfl (by omega) rfl rfl rfl rfl (c_411_f hT hP.2.2.1 (by omega) (by omega) hF.2.2.1 hFp) (fun r10 w11 h12 => ?_)
      obtain ⟨q13, rfl⟩ := h12
      obtain ⟨z14, hz14⟩ : ∃ z, z = prd f z1.toNat := ⟨_, rfl⟩
      rw [← hz14] at q13; subst q13
      have z14b := (show 1 ≤ z14 ∧ z14 ≤ 1000 from by rw [hz14]; exact prd_bd (by omega) (by omega) hF.2.2.1 hFp)
      show e_Ok 20 elay ecode eI (d + 1) 416 (64, [(4, (0, z6)), (3, (0, z1)), (0, (1, 275)), (1, (0, x)), (2, (0, s))], [(0, z14), (0, x), (1, 275)], w) _
      refine e_Ok.sub' (z := x - z14) rfl (by omega) (by omega) ?_
      have hlow := rm_dn hF (j := z1) (by omega) hx.1 (by rw [← hz6]; omega)
      rw [← hz14] at hlow
      refine e_Ok.run (t' := (66, [(4, (0, z6)), (3, (0, z1)), (0, (1, 275)), (1, (0, x)), (2, (0, s))], [(0, z1), (0, x - z14), (1, 275)], w)) 1 rfl ?_
      refine e_Ok.callV rfl (by omega) rfl rfl rfl rfl (c_415 (by omega) hT hF hP hn (by omega) (by omega) (by rw [← hz14]; omega) kf ke) (fun r15 w16 h17 => ?_)
      obtain ⟨z19, rfl, q18, q18f, q18g, q18d, q18c⟩ := h17
      have f20 : e_fr mFe w w16 := e_fr.trans (e_fr.refl w) (e_fr.mono q18 (fun c k q => by exact q))
      obtain ⟨rfl, q18c⟩ | ⟨rfl, q18c⟩ := q18c
      · show e_Ok 20 elay ecode eI (d + 1) 416 (69, [(4, (0, z6)), (3, (0, z1)), (0, (1, 275)), (1, (0, x)), (2, (0, s))], [(0, 1)], w16) _
        refine e_Ok.if1 rfl (fun h21 => ?_) (fun h21 => ?_)
        · replace h21 : (1 : Int) = 0 := h21
          exfalso; omega
        · replace h21 : (1 : Int) ≠ 0 := by have q : ¬ ((1 : Int) = 0) := h21; omega
          refine e_Ok.run (t' := (75, [(4, (0, z6)), (3, (0, z1)), (0, (1, 275)), (1, (0, x)), (2, (0, s))], [(0, z1), (1, 275), (0, x)], w16)) 3 rfl ?_
          refine e_Ok.callV rfl (by omega) rfl rfl rfl rfl (c_411_f (mT_Fe f20 hT) (plC.fr hP hA (e_fr.mono f20 (fun c k q => fe_se q))).2.2.1 (by omega) (by omega) hF.2.2.1 hFp) (fun r22 w23 h24 => ?_)
          obtain ⟨q25, rfl⟩ := h24
          obtain ⟨z26, hz26⟩ : ∃ z, z = prd f z1.toNat := ⟨_, rfl⟩
          rw [← hz26] at q25; subst q25
          have z26b := (show 1 ≤ z26 ∧ z26 ≤ 1000 from by rw [hz26]; exact prd_bd (by omega) (by omega) hF.2.2.1 hFp)
          show e_Ok 20 elay ecode eI (d + 1) 416 (78, [(4, (0, z6)), (3, (0, z1)), (0, (1, 275)), (1, (0, x)), (2, (0, s))], [(0, z26), (0, x)], w16) _
          refine e_Ok.sub' (z := x - z26) rfl (by omega) (by omega) ?_
          refine e_Ok.run (t' := (83, [(4, (0, z6)), (3, (0, z1)), (0, (1, 275)), (1, (0, x)), (2, (0, s))], [(0, x - z26)], w16)) 1 rfl ?_
          refine e_Ok.rets rfl rfl ?_
          have hzz : z26 = z14 := by rw [hz26, hz14]
          have hyes := (show lnk w16 f x (x - z26) s ∧ ∀ y, lnk w f x y s → y = x - z26 from bs_dn_yes (by omega) hsj hz26 (by rw [← hz6]; omega) (by rw [hzz]; exact q18c))
          have hin := hyes.1.1.in (n := m.toNat) (by omega) (fun k g1 g2 => (hF.2.2.1 k g1 (by omega)).1) (by rw [← hn]; exact hx)
          rw [← hn] at hin
          exact ⟨_, rfl, f20, q18f, q18g, q18d, Or.inr ⟨hin, hyes.1, hyes.2⟩⟩
      · show e_Ok 20 elay ecode eI (d + 1) 416 (69, [(4, (0, z6)), (3, (0, z1)), (0, (1, 275)), (1, (0, x)), (2, (0, s))], [(0, 0)], w16) _
        refine e_Ok.if1 rfl (fun h27 => ?_) (fun h27 => ?_)
        · replace h27 : (0 : Int) = 0 := h27
          refine e_Ok.run (t' := (83, [(4, (0, z6)), (3, (0, z1)), (0, (1, 275)), (1, (0, x)), (2, (0, s))], [(0, (-1))], w16)) 1 rfl ?_
          refine e_Ok.rets rfl rfl ?_
          exact ⟨_, rfl, f20, q18f, q18g, q18d, Or.inl ⟨rfl, (bs_dn_no2 (by omega) hsj hz14 q18d q18c)⟩⟩
        · replace h27 : (0 : Int) ≠ 0 := by have q : ¬ ((0 : Int) = 0) := h27; omega
          exfalso; omega
  · replace h8 : (z7 : Int) = 0 := by have q : ¬ ((z7 : Int) ≠ 0) := h8; omega
    refine e_Ok.run (t' := (21, [(4, (0, z6)), (3, (0, z1)), (0, (1, 275)), (1, (0, x)), (2, (0, s))], [(0, 1), (0, z6)], w)) 2 rfl ?_
    refine e_Ok.add (z := z6 + 1) rfl (by omega) (by omega) ?_
    refine e_Ok.run (t' := (23, [(4, (0, z6)), (3, (0, z1)), (0, (1, 275)), (1, (0, x)), (2, (0, s))], [(1, 275), (0, z6 + 1)], w)) 1 rfl ?_
    refine e_Ok.getr (z := 347) rfl (el_o rfl) rfl rfl (e_Has.eq hT rfl) (by omega) ?_
    refine e_Ok.run (t' := (27, [(4, (0, z6)), (3, (0, z1)), (0, (1, 275)), (1, (0, x)), (2, (0, s))], [(0, z1), (1, 347), (0, z6 + 1)], w)) 1 rfl ?_
    refine e_Ok.ald (z := f z1) rfl (el_o rfl) rfl (by omega) (hP.2.2.1 z1) (by omega) ?_
    refine e_Ok.if2 rfl (fun h28 => ?_) (fun h28 => ?_)
    · replace h28 : (z6 + 1 : Int) ≥ f z1 := h28
      refine e_Ok.run (t' := (51, [(4, (0, z6)), (3, (0, z1)), (0, (1, 275)), (1, (0, x)), (2, (0, s))], [(0, (-1))], w)) 1 rfl ?_
      refine e_Ok.rets rfl rfl ?_
      exact ⟨_, rfl, (e_fr.refl w), kf, ke, (edK.same (fun e => rfl)), Or.inl ⟨rfl, (bs_up_no1 (by omega) (by rw [← hsj, ← hz6]; omega))⟩⟩
    · replace h28 : (z6 + 1 : Int) < f z1 := by have q : ¬ ((z6 + 1 : Int) ≥ f z1) := h28; omega
      refine e_Ok.run (t' := (34, [(4, (0, z6)), (3, (0, z1)), (0, (1, 275)), (1, (0, x)), (2, (0, s))], [(0, z1), (0, x), (1, 275)], w)) 3 rfl ?_
      refine e_Ok.callV rfl (by omega) rfl rfl rfl rfl (c_415 (by omega) hT hF hP hn (by omega) (by omega) (rm_up hF hn (by omega) (by omega) (by rw [← hz6]; omega)) kf ke) (fun r29 w30 h31 => ?_)
      obtain ⟨z33, rfl, q32, q32f, q32g, q32d, q32c⟩ := h31
      have f34 : e_fr mFe w w30 := e_fr.trans (e_fr.refl w) (e_fr.mono q32 (fun c k q => by exact q))
      obtain ⟨rfl, q32c⟩ | ⟨rfl, q32c⟩ := q32c
      · show e_Ok 20 elay ecode eI (d + 1) 416 (37, [(4, (0, z6)), (3, (0, z1)), (0, (1, 275)), (1, (0, x)), (2, (0, s))], [(0, 1)], w30) _
        refine e_Ok.if1 rfl (fun h35 => ?_) (fun h35 => ?_)
        · replace h35 : (1 : Int) = 0 := h35
          exfalso; omega
        · replace h35 : (1 : Int) ≠ 0 := by have q : ¬ ((1 : Int) = 0) := h35; omega
          refine e_Ok.run (t' := (43, [(4, (0, z6)), (3, (0, z1)), (0, (1, 275)), (1, (0, x)), (2, (0, s))], [(0, z1), (1, 275), (0, x)], w30)) 3 rfl ?_
          refine e_Ok.callV rfl (by omega) rfl rfl rfl rfl (c_411_f (mT_Fe f34 hT) (plC.fr hP hA (e_fr.mono f34 (fun c k q => fe_se q))).2.2.1 (by omega) (by omega) hF.2.2.1 hFp) (fun r36 w37 h38 => ?_)
          obtain ⟨q40, rfl⟩ := h38
          obtain ⟨z41, hz41⟩ : ∃ z, z = prd f z1.toNat := ⟨_, rfl⟩
          rw [← hz41] at q40; subst q40
          have z41b := (show 1 ≤ z41 ∧ z41 ≤ 1000 from by rw [hz41]; exact prd_bd (by omega) (by omega) hF.2.2.1 hFp)
          show e_Ok 20 elay ecode eI (d + 1) 416 (46, [(4, (0, z6)), (3, (0, z1)), (0, (1, 275)), (1, (0, x)), (2, (0, s))], [(0, z41), (0, x)], w30) _
          refine e_Ok.add (z := x + z41) rfl (by omega) (by omega) ?_
          refine e_Ok.run (t' := (51, [(4, (0, z6)), (3, (0, z1)), (0, (1, 275)), (1, (0, x)), (2, (0, s))], [(0, x + z41)], w30)) 1 rfl ?_
          refine e_Ok.rets rfl rfl ?_
          have hyes := (show lnk w30 f x (x + z41) s ∧ ∀ y, lnk w f x y s → y = x + z41 from bs_up_yes (by omega) hsj hz41 (by rw [← hz6]; omega) q32c)
          have hin := hyes.1.1.in (n := m.toNat) (by omega) (fun k g1 g2 => (hF.2.2.1 k g1 (by omega)).1) (by rw [← hn]; exact hx)
          rw [← hn] at hin
          exact ⟨_, rfl, f34, q32f, q32g, q32d, Or.inr ⟨hin, hyes.1, hyes.2⟩⟩
      · show e_Ok 20 elay ecode eI (d + 1) 416 (37, [(4, (0, z6)), (3, (0, z1)), (0, (1, 275)), (1, (0, x)), (2, (0, s))], [(0, 0)], w30) _
        refine e_Ok.if1 rfl (fun h42 => ?_) (fun h42 => ?_)
        · replace h42 : (0 : Int) = 0 := h42
          refine e_Ok.run (t' := (51, [(4, (0, z6)), (3, (0, z1)), (0, (1, 275)), (1, (0, x)), (2, (0, s))], [(0, (-1))], w30)) 1 rfl ?_
          refine e_Ok.rets rfl rfl ?_
          exact ⟨_, rfl, f34, q32f, q32g, q32d, Or.inl ⟨rfl, (bs_up_no2 (by omega) hsj q32d q32c)⟩⟩
        · replace h42 : (0 : Int) ≠ 0 := by have q : ¬ ((0 : Int) = 0) := h42; omega
          exfalso; omega
set_option maxHeartbeats 4000000 in
theorem c_417 {d : Nat} (hd : 30 ≤ d) {w : eW} (hT : e_Has mTy w) {a m : Int} {f : Int → Int} (hF : plF a m f) (hP : plC w a m f) {n : Int} (hn : n = prd f m.toNat) {x y : Int} (hx : 0 ≤ x ∧ x < n) (hy : 0 ≤ y ∧ y < n) : e_Ok 20 elay ecode eI d 417 (0, [(0, (1, 275)), (1, (0, x)), (2, (0, y)), (3, (0, n))], [], w) (fun r w' => ∃ z : Int, r = [(0, z)] ∧ e_fr mSe w w' ∧ (z = -1 ∨ ((0 ≤ z ∧ z ≤ 999) ∧ ∃ y', wlk w' f m n x z y'))) := by
  obtain ⟨d, rfl⟩ : ∃ e, d = e + 1 := ⟨d - 1, by omega⟩
  have hA := (e_Has.get hT (c := 275) (k := 10) (lo := 0) (hi := 4) rfl (by decide)).2
  have hFa := hF.1
  have hFm := hF.2.1
  have hFp := hF.2.2.2
  have hn1 : 1 ≤ n ∧ n ≤ 1000 := by rw [hn]; exact prd_bd (by omega) ⟨by omega, Int.le_refl m⟩ hF.2.2.1 hFp
  refine e_Ok.run (t' := (3, [(4, (0, 0)), (0, (1, 275)), (1, (0, x)), (2, (0, y)), (3, (0, n))], [], w)) 2 rfl ?_
  have hL1 : ∀ (nn : Nat) (y4 : Int) (v1 : eW), e_fr mSe w v1 ∧ (0 ≤ y4 ∧ y4 ≤ n) ∧ (∀ i, 0 ≤ i → i < y4 → v1 349 i = -1) ∧ e_kn v1 351 0 (y4 - 1) ∧ e_kn v1 352 0 (6 * y4 - 1) → 1001 - y4 < nn → e_Ok 20 elay ecode eI (d + 1) 417 (3, [(0, (1, 275)), (1, (0, x)), (2, (0, y)), (3, (0, n)), (4, (0, y4))], [], v1) (fun r w' => ∃ z : Int, r = [(0, z)] ∧ e_fr mSe w w' ∧ (z = -1 ∨ ((0 ≤ z ∧ z ≤ 999) ∧ ∃ y', wlk w' f m n x z y'))) := by
    intro nn
    induction nn with
    | zero => intro y4 v1 hj hm; obtain ⟨j3, j4, j5, j6, j7⟩ := hj; exfalso; omega
    | succ nn ih2 =>
      intro y4 v1 hj hm
      obtain ⟨j3, j4, j5, j6, j7⟩ := hj
      refine e_Ok.run (t' := (6, [(0, (1, 275)), (1, (0, x)), (2, (0, y)), (3, (0, n)), (4, (0, y4))], [(0, n), (0, y4)], v1)) 2 rfl ?_
      refine e_Ok.if2 rfl (fun h8 => ?_) (fun h8 => ?_)
      · replace h8 : (y4 : Int) ≥ n := h8
        have hk1 : e_kn v1 351 0 (n - 1) := fun i g1 g2 => j6 i g1 (by omega)
        have hk2 : e_kn v1 352 0 (6 * n - 1) := fun i g1 g2 => j7 i g1 (by omega)
        refine e_Ok.run (t' := (63, [(0, (1, 275)), (1, (0, x)), (2, (0, y)), (3, (0, n)), (4, (0, y4))], [(0, x), (1, 275)], v1)) 2 rfl ?_
        refine e_Ok.callV rfl (by omega) rfl rfl rfl rfl (c_414 (by omega) (mT_Se j3 hT) hF (plC.fr hP hA j3) (n := n) (by omega) (by omega) hk1) (fun r9 w10 h11 => ?_)
        obtain ⟨z13, rfl, z13b, q12, q12k⟩ := h11
        have f14 : e_fr mSe w w10 := e_fr.trans j3 (e_fr.mono q12 (fun c k q => by exact fn_se q))
        show e_Ok 20 elay ecode eI (d + 1) 417 (66, [(0, (1, 275)), (1, (0, x)), (2, (0, y)), (3, (0, n)), (4, (0, y4))], [(0, z13)], w10) _
        refine e_Ok.if1 rfl (fun h15 => ?_) (fun h15 => ?_)
        · replace h15 : (z13 : Int) = 0 := h15
          refine e_Ok.run (t' := (78, [(0, (1, 275)), (1, (0, x)), (2, (0, y)), (3, (0, n)), (4, (0, y4))], [(0, (-1))], w10)) 1 rfl ?_
          refine e_Ok.rets rfl rfl ?_
          exact ⟨_, rfl, f14, Or.inl rfl⟩
        · replace h15 : (z13 : Int) ≠ 0 := by have q : ¬ ((z13 : Int) = 0) := h15; omega
          refine e_Ok.run (t' := (71, [(0, (1, 275)), (1, (0, x)), (2, (0, y)), (3, (0, n)), (4, (0, y4))], [(0, y), (1, 275)], w10)) 2 rfl ?_
          refine e_Ok.callV rfl (by omega) rfl rfl rfl rfl (c_414 (by omega) (mT_Se f14 hT) hF (plC.fr hP hA f14) (n := n) (by omega) (by omega) q12k) (fun r16 w17 h18 => ?_)
          obtain ⟨z20, rfl, z20b, q19, q19k⟩ := h18
          have f21 : e_fr mSe w w17 := e_fr.trans f14 (e_fr.mono q19 (fun c k q => by exact fn_se q))
          show e_Ok 20 elay ecode eI (d + 1) 417 (74, [(0, (1, 275)), (1, (0, x)), (2, (0, y)), (3, (0, n)), (4, (0, y4))], [(0, z20)], w17) _
          refine e_Ok.if1 rfl (fun h22 => ?_) (fun h22 => ?_)
          · replace h22 : (z20 : Int) ≠ 0 := h22
            refine e_Ok.run (t' := (81, [(0, (1, 275)), (1, (0, x)), (2, (0, y)), (3, (0, n)), (4, (0, y4))], [(1, 275), (0, 2)], w17)) 2 rfl ?_
            refine e_Ok.getr (z := 286) rfl (el_o rfl) rfl rfl ((q19 275 15 (by unfold mFn mCl; omega)).trans ((q12 275 15 (by unfold mFn mCl; omega)).trans ((j3 275 15 (by unfold mSe mCl; omega)).trans (e_Has.eq hT rfl)))) (by omega) ?_
            refine e_Ok.run (t' := (85, [(0, (1, 275)), (1, (0, x)), (2, (0, y)), (3, (0, n)), (4, (0, y4))], [(1, 275), (1, 286), (0, 2)], w17)) 1 rfl ?_
            refine e_Ok.getf (z := a) rfl (el_o rfl) rfl rfl ((q19 275 110 (by unfold mFn mCl; omega)).trans ((q12 275 110 (by unfold mFn mCl; omega)).trans ((j3 275 110 (by unfold mSe mCl; omega)).trans hP.1))) (by omega) ?_
            refine e_Ok.ald (z := m) rfl (el_o rfl) rfl (by omega) ((q19 286 a (by unfold mFn mCl; omega)).trans ((q12 286 a (by unfold mFn mCl; omega)).trans ((j3 286 a (by unfold mSe mCl; omega)).trans hP.2.1))) (by omega) ?_
            refine e_Ok.mul (z := 2 * m) rfl (by omega) (by omega) ?_
            refine e_Ok.run (t' := (93, [(4, (0, 2 * m)), (0, (1, 275)), (1, (0, x)), (2, (0, y)), (3, (0, n))], [(1, 275)], w17)) 2 rfl ?_
            refine e_Ok.getr (z := 349) rfl (el_o rfl) rfl rfl ((q19 275 106 (by unfold mFn mCl; omega)).trans ((q12 275 106 (by unfold mFn mCl; omega)).trans ((j3 275 106 (by unfold mSe mCl; omega)).trans (e_Has.eq hT rfl)))) (by omega) ?_
            refine e_Ok.run (t' := (98, [(4, (0, 2 * m)), (0, (1, 275)), (1, (0, x)), (2, (0, y)), (3, (0, n))], [(0, 0), (0, y), (1, 349)], w17)) 2 rfl ?_
            refine e_Ok.ast rfl (el_o rfl) rfl rfl (by omega) ?_
            generalize hw23 : e_up w17 349 y 0 = w23
            have f24 : e_fr mSe w w23 := e_fr.up f21 hw23 (by unfold mSe mCl; omega)
            refine e_Ok.run (t' := (100, [(4, (0, 2 * m)), (0, (1, 275)), (1, (0, x)), (2, (0, y)), (3, (0, n))], [(1, 275)], w23)) 1 rfl ?_
            refine e_Ok.getr (z := 350) rfl (el_o rfl) rfl rfl (by rw [← hw23]; exact (e_up_ne _ _ (Or.inl (by omega))).trans ((q19 275 107 (by unfold mFn mCl; omega)).trans ((q12 275 107 (by unfold mFn mCl; omega)).trans ((j3 275 107 (by unfold mSe mCl; omega)).trans (e_Has.eq hT rfl))))) (by omega) ?_
            refine e_Ok.run (t' := (105, [(4, (0, 2 * m)), (0, (1, 275)), (1, (0, x)), (2, (0, y)), (3, (0, n))], [(0, y), (0, 0), (1, 350)], w23)) 2 rfl ?_
            refine e_Ok.ast rfl (el_o rfl) rfl rfl (by omega) ?_
            generalize hw25 : e_up w23 350 0 y = w25
            have f26 : e_fr mSe w w25 := e_fr.up f24 hw25 (by unfold mSe mCl; omega)
            have hbf : bfs w25 f m n 1 := bfs.start (w := w17) (by omega) (fun i g1 g2 => Eq.trans ((fun e => Eq.trans (q19 349 e (by unfold mFn mCl; omega)) ((fun e => Eq.trans (q12 349 e (by unfold mFn mCl; omega)) ((fun e => rfl) e)) e)) i) (j5 i g1 (by omega))) hw23 hw25
            refine e_Ok.run (t' := (112, [(6, (0, 0)), (5, (0, 1)), (4, (0, 2 * m)), (0, (1, 275)), (1, (0, x)), (2, (0, y)), (3, (0, n))], [], w25)) 4 rfl ?_
            have hL27 : ∀ (nn : Nat) (y5 : Int) (y6 : Int) (v3 : eW), e_fr mSe w v3 ∧ e_kn v3 351 0 (n - 1) ∧ e_kn v3 352 0 (6 * n - 1) ∧ bfs v3 f m n y5 ∧ (0 ≤ y6 ∧ y6 ≤ y5 ∧ y5 ≤ 1000) → 1001 - y6 < nn → e_Ok 20 elay ecode eI (d + 1) 417 (112, [(0, (1, 275)), (1, (0, x)), (2, (0, y)), (3, (0, n)), (4, (0, 2 * m)), (5, (0, y5)), (6, (0, y6))], [], v3) (fun r w' => ∃ z : Int, r = [(0, z)] ∧ e_fr mSe w w' ∧ (z = -1 ∨ ((0 ≤ z ∧ z ≤ 999) ∧ ∃ y', wlk w' f m n x z y'))) := by
              intro nn
              induction nn with
              | zero => intro y5 y6 v3 hj hm; obtain ⟨j29, j30, j31, j32, j33⟩ := hj; exfalso; omega
              | succ nn ih28 =>
                intro y5 y6 v3 hj hm
                obtain ⟨j29, j30, j31, j32, j33⟩ := hj
                have hb3 := j32.1
                refine e_Ok.run (t' := (116, [(0, (1, 275)), (1, (0, x)), (2, (0, y)), (3, (0, n)), (4, (0, 2 * m)), (5, (0, y5)), (6, (0, y6))], [(0, y5), (0, y6)], v3)) 2 rfl ?_
                refine e_Ok.if2 rfl (fun h34 => ?_) (fun h34 => ?_)
                · replace h34 : (y6 : Int) ≥ y5 := h34
                  refine e_Ok.run (t' := (214, [(0, (1, 275)), (1, (0, x)), (2, (0, y)), (3, (0, n)), (4, (0, 2 * m)), (5, (0, y5)), (6, (0, y6))], [(1, 275)], v3)) 1 rfl ?_
                  refine e_Ok.getr (z := 349) rfl (el_o rfl) rfl rfl ((j29 275 106 (by unfold mSe mCl; omega)).trans (e_Has.eq hT rfl)) (by omega) ?_
                  refine e_Ok.run (t' := (218, [(0, (1, 275)), (1, (0, x)), (2, (0, y)), (3, (0, n)), (4, (0, 2 * m)), (5, (0, y5)), (6, (0, y6))], [(0, x), (1, 349)], v3)) 1 rfl ?_
                  have h35 := (bfs.d j32 (x := x) (by omega) (by omega))
                  refine e_Ok.ald (z := v3 349 x) rfl (el_o rfl) rfl (by omega) rfl (by omega) ?_
                  refine e_Ok.run (t' := (227, [(8, (0, 0)), (7, (0, x)), (6, (0, v3 349 x)), (0, (1, 275)), (1, (0, x)), (2, (0, y)), (3, (0, n)), (4, (0, 2 * m)), (5, (0, y5))], [], v3)) 5 rfl ?_
                  have hL36 : ∀ (nn : Nat) (n7 : Int) (y8 : Int) (v5 : eW), e_fr mSe w v5 ∧ e_kn v5 351 0 (n - 1) ∧ e_kn v5 352 0 (6 * n - 1) ∧ bfs v5 f m n y5 ∧ wlk v5 f m n x y8 n7 ∧ (0 ≤ n7 ∧ n7 < n) ∧ v5 349 n7 = v3 349 x - y8 ∧ (0 ≤ y8 ∧ (y8 ≤ v3 349 x ∨ y8 = 0)) → 1001 - y8 < nn → e_Ok 20 elay ecode eI (d + 1) 417 (227, [(0, (1, 275)), (1, (0, x)), (2, (0, y)), (3, (0, n)), (6, (0, v3 349 x)), (7, (0, n7)), (8, (0, y8))], [], v5) (fun r w' => ∃ z : Int, r = [(0, z)] ∧ e_fr mSe w w' ∧ (z = -1 ∨ ((0 ≤ z ∧ z ≤ 999) ∧ ∃ y', wlk w' f m n x z y'))) := by
                    intro nn
                    induction nn with
                    | zero => intro n7 y8 v5 hj hm; obtain ⟨j38, j40, j41, j42, j43, j44, j45, j46⟩ := hj; exfalso; omega
                    | succ nn ih37 =>
                      intro n7 y8 v5 hj hm
                      obtain ⟨j38, j40, j41, j42, j43, j44, j45, j46⟩ := hj
                      refine e_Ok.run (t' := (231, [(0, (1, 275)), (1, (0, x)), (2, (0, y)), (3, (0, n)), (6, (0, v3 349 x)), (7, (0, n7)), (8, (0, y8))], [(0, v3 349 x), (0, y8)], v5)) 2 rfl ?_
                      refine e_Ok.if2 rfl (fun h47 => ?_) (fun h47 => ?_)
                      · replace h47 : (y8 : Int) ≥ v3 349 x := h47
                        refine e_Ok.run (t' := (307, [(0, (1, 275)), (1, (0, x)), (2, (0, y)), (3, (0, n)), (6, (0, v3 349 x)), (7, (0, n7)), (8, (0, y8))], [(0, v3 349 x)], v5)) 1 rfl ?_
                        refine e_Ok.rets rfl rfl ?_
                        refine ⟨_, rfl, j38, Decidable.byCases (p := 0 ≤ v3 349 x) (fun g => Or.inr ⟨by omega, _, (show y8 = v3 349 x by omega) ▸ j43⟩) (fun g => Or.inl (by omega))⟩
                      · replace h47 : (y8 : Int) < v3 349 x := by have q : ¬ ((y8 : Int) ≥ v3 349 x) := h47; omega
                        refine e_Ok.run (t' := (237, [(9, (0, 0)), (0, (1, 275)), (1, (0, x)), (2, (0, y)), (3, (0, n)), (6, (0, v3 349 x)), (7, (0, n7)), (8, (0, y8))], [], v5)) 2 rfl ?_
                        have hfn : 1 ≤ v5 349 n7 := by omega
                        have hm2 : 0 < 2 * m := by obtain ⟨yy, ss, -, q2, -⟩ := j42.2.2.2.2 n7 (by omega) (by omega) hfn; omega
                        refine e_Ok.run (t' := (241, [(9, (0, 0)), (0, (1, 275)), (1, (0, x)), (2, (0, y)), (3, (0, n)), (6, (0, v3 349 x)), (7, (0, n7)), (8, (0, y8))], [(0, 0), (0, n7), (1, 275)], v5)) 3 rfl ?_
                        refine e_Ok.callV rfl (by omega) rfl rfl rfl rfl (c_416 (by omega) (mT_Se j38 hT) hF (plC.fr hP hA j38) hn (by omega) (by omega) j40 j41) (fun r48 w49 h50 => ?_)
                        obtain ⟨z52, rfl, q51, q51f, q51g, q51d, q51c⟩ := h50
                        have f53 : e_fr mSe w w49 := e_fr.trans j38 (e_fr.mono q51 (fun c k q => by exact fe_se q))
                        have q51B := bfs.next j42 (fun c k g => q51 c k (by unfold mFe mCl; omega)) q51d
                        obtain ⟨rfl, q51c⟩ | ⟨q51r, q51l, q51c⟩ := q51c
                        · show e_Ok 20 elay ecode eI (d + 1) 417 (244, [(9, (0, 0)), (0, (1, 275)), (1, (0, x)), (2, (0, y)), (3, (0, n)), (6, (0, v3 349 x)), (7, (0, n7)), (8, (0, y8))], [(0, (-1))], w49) _
                          refine e_Ok.run (t' := (246, [(10, (0, (-1))), (9, (0, 0)), (0, (1, 275)), (1, (0, x)), (2, (0, y)), (3, (0, n)), (6, (0, v3 349 x)), (7, (0, n7)), (8, (0, y8))], [], w49)) 1 rfl ?_
                          have hL54 : ∀ (nn : Nat) (y9 : Int) (b10 : Int) (v6 : eW), e_fr mSe w v6 ∧ e_kn v6 351 0 (n - 1) ∧ e_kn v6 352 0 (6 * n - 1) ∧ bfs v6 f m n y5 ∧ wlk v6 f m n x y8 n7 ∧ v6 349 n7 = v3 349 x - y8 ∧ nrr v6 f m n n7 y9 b10 ∧ (0 ≤ y9 ∧ y9 ≤ 12) ∧ ((b10 = -1 ∨ ((0 ≤ b10 ∧ b10 < n) ∧ lnx f n7 b10 y9))) → 13 - y9 < nn → e_Ok 20 elay ecode eI (d + 1) 417 (246, [(0, (1, 275)), (1, (0, x)), (2, (0, y)), (3, (0, n)), (6, (0, v3 349 x)), (7, (0, n7)), (8, (0, y8)), (9, (0, y9)), (10, (0, b10))], [], v6) (fun r w' => ∃ z : Int, r = [(0, z)] ∧ e_fr mSe w w' ∧ (z = -1 ∨ ((0 ≤ z ∧ z ≤ 999) ∧ ∃ y', wlk w' f m n x z y'))) := by
                            intro nn
                            induction nn with
                            | zero => intro y9 b10 v6 hj hm; obtain ⟨j56, j57, j58, j59, j60, j61, j62, j63, j64⟩ := hj; exfalso; omega
                            | succ nn ih55 =>
                              intro y9 b10 v6 hj hm
                              obtain ⟨j56, j57, j58, j59, j60, j61, j62, j63, j64⟩ := hj
                              have hbs := nrr.lt j62
                              refine e_Ok.run (t' := (248, [(0, (1, 275)), (1, (0, x)), (2, (0, y)), (3, (0, n)), (6, (0, v3 349 x)), (7, (0, n7)), (8, (0, y8)), (9, (0, y9)), (10, (0, b10))], [(0, b10)], v6)) 1 rfl ?_
                              refine e_Ok.if1 rfl (fun h65 => ?_) (fun h65 => ?_)
                              · replace h65 : (b10 : Int) < 0 := h65
                                refine e_Ok.inc (z := y9 + 1) rfl rfl (by omega) (by omega) ?_
                                show e_Ok 20 elay ecode eI (d + 1) 417 (273, [(9, (0, y9 + 1)), (0, (1, 275)), (1, (0, x)), (2, (0, y)), (3, (0, n)), (6, (0, v3 349 x)), (7, (0, n7)), (8, (0, y8)), (10, (0, b10))], [], v6) _
                                have hnb : ¬ (0 ≤ b10 ∧ v6 349 b10 = v6 349 n7 - 1) := by omega
                                have hl2 := nrr.lt2 j62 hnb
                                refine e_Ok.run (t' := (278, [(9, (0, y9 + 1)), (0, (1, 275)), (1, (0, x)), (2, (0, y)), (3, (0, n)), (6, (0, v3 349 x)), (7, (0, n7)), (8, (0, y8)), (10, (0, b10))], [(0, y9 + 1), (0, n7), (1, 275)], v6)) 3 rfl ?_
                                refine e_Ok.callV rfl (by omega) rfl rfl rfl rfl (c_416 (by omega) (mT_Se j56 hT) hF (plC.fr hP hA j56) hn (by omega) (by omega) j57 j58) (fun r66 w67 h68 => ?_)
                                obtain ⟨z70, rfl, q69, q69f, q69g, q69d, q69c⟩ := h68
                                have f71 : e_fr mSe w w67 := e_fr.trans j56 (e_fr.mono q69 (fun c k q => by exact fe_se q))
                                have q69B := bfs.next j59 (fun c k g => q69 c k (by unfold mFe mCl; omega)) q69d
                                obtain ⟨rfl, q69c⟩ | ⟨q69r, q69l, q69c⟩ := q69c
                                · show e_Ok 20 elay ecode eI (d + 1) 417 (281, [(9, (0, y9 + 1)), (0, (1, 275)), (1, (0, x)), (2, (0, y)), (3, (0, n)), (6, (0, v3 349 x)), (7, (0, n7)), (8, (0, y8)), (10, (0, b10))], [(0, (-1))], w67) _
                                  refine e_Ok.run (t' := (246, [(10, (0, (-1))), (9, (0, y9 + 1)), (0, (1, 275)), (1, (0, x)), (2, (0, y)), (3, (0, n)), (6, (0, v3 349 x)), (7, (0, n7)), (8, (0, y8))], [], w67)) 2 rfl ?_
                                  refine e_Ok.sub eAlk (e_sub_of rfl ?_) (ih55 (y9 + 1) (-1) w67 ⟨f71, q69f, q69g, q69B, (wlk.next j60 (fun e => Eq.trans (q69 353 e (by unfold mFe mCl; omega)) ((fun e => rfl) e))), (Eq.trans ((fun e => Eq.trans (q69 349 e (by unfold mFe mCl; omega)) ((fun e => rfl) e)) n7) j61), (nrr.more j62 hnb (fun e => Eq.trans (q69 349 e (by unfold mFe mCl; omega)) ((fun e => rfl) e)) q69d (fun y h => absurd h (q69c y))), by omega, (Or.inl rfl)⟩ (by omega))
                                  exact ⟨rfl, rfl, rfl, rfl, rfl, rfl, rfl, rfl, rfl, trivial⟩
                                · show e_Ok 20 elay ecode eI (d + 1) 417 (281, [(9, (0, y9 + 1)), (0, (1, 275)), (1, (0, x)), (2, (0, y)), (3, (0, n)), (6, (0, v3 349 x)), (7, (0, n7)), (8, (0, y8)), (10, (0, b10))], [(0, z70)], w67) _
                                  refine e_Ok.run (t' := (246, [(10, (0, z70)), (9, (0, y9 + 1)), (0, (1, 275)), (1, (0, x)), (2, (0, y)), (3, (0, n)), (6, (0, v3 349 x)), (7, (0, n7)), (8, (0, y8))], [], w67)) 2 rfl ?_
                                  refine e_Ok.sub eAlk (e_sub_of rfl ?_) (ih55 (y9 + 1) z70 w67 ⟨f71, q69f, q69g, q69B, (wlk.next j60 (fun e => Eq.trans (q69 353 e (by unfold mFe mCl; omega)) ((fun e => rfl) e))), (Eq.trans ((fun e => Eq.trans (q69 349 e (by unfold mFe mCl; omega)) ((fun e => rfl) e)) n7) j61), (nrr.more j62 hnb (fun e => Eq.trans (q69 349 e (by unfold mFe mCl; omega)) ((fun e => rfl) e)) q69d q69c), by omega, (Or.inr ⟨q69r, q69l.1⟩)⟩ (by omega))
                                  exact ⟨rfl, rfl, rfl, rfl, rfl, rfl, rfl, rfl, rfl, trivial⟩
                              · replace h65 : (b10 : Int) ≥ 0 := by have q : ¬ ((b10 : Int) < 0) := h65; omega
                                have hb0 : (0 ≤ b10 ∧ b10 < n) := by rcases j64 with g | g; exact absurd g (by omega); exact g.1
                                refine e_Ok.run (t' := (252, [(0, (1, 275)), (1, (0, x)), (2, (0, y)), (3, (0, n)), (6, (0, v3 349 x)), (7, (0, n7)), (8, (0, y8)), (9, (0, y9)), (10, (0, b10))], [(1, 275)], v6)) 1 rfl ?_
                                refine e_Ok.getr (z := 349) rfl (el_o rfl) rfl rfl ((j56 275 106 (by unfold mSe mCl; omega)).trans (e_Has.eq hT rfl)) (by omega) ?_
                                refine e_Ok.run (t' := (257, [(0, (1, 275)), (1, (0, x)), (2, (0, y)), (3, (0, n)), (6, (0, v3 349 x)), (7, (0, n7)), (8, (0, y8)), (9, (0, y9)), (10, (0, b10))], [(0, b10), (1, 349)], v6)) 1 rfl ?_
                                have h72 := (bfs.d j59 (x := b10) (by omega) (by omega))
                                refine e_Ok.ald (z := v6 349 b10) rfl (el_o rfl) rfl (by omega) rfl (by omega) ?_
                                refine e_Ok.run (t' := (259, [(0, (1, 275)), (1, (0, x)), (2, (0, y)), (3, (0, n)), (6, (0, v3 349 x)), (7, (0, n7)), (8, (0, y8)), (9, (0, y9)), (10, (0, b10))], [(1, 275), (0, v6 349 b10)], v6)) 1 rfl ?_
                                refine e_Ok.getr (z := 349) rfl (el_o rfl) rfl rfl ((j56 275 106 (by unfold mSe mCl; omega)).trans (e_Has.eq hT rfl)) (by omega) ?_
                                refine e_Ok.run (t' := (264, [(0, (1, 275)), (1, (0, x)), (2, (0, y)), (3, (0, n)), (6, (0, v3 349 x)), (7, (0, n7)), (8, (0, y8)), (9, (0, y9)), (10, (0, b10))], [(0, n7), (1, 349), (0, v6 349 b10)], v6)) 1 rfl ?_
                                have h73 := (bfs.d j59 (x := n7) (by omega) (by omega))
                                refine e_Ok.ald (z := v6 349 n7) rfl (el_o rfl) rfl (by omega) rfl (by omega) ?_
                                refine e_Ok.run (t' := (266, [(0, (1, 275)), (1, (0, x)), (2, (0, y)), (3, (0, n)), (6, (0, v3 349 x)), (7, (0, n7)), (8, (0, y8)), (9, (0, y9)), (10, (0, b10))], [(0, 1), (0, v6 349 n7), (0, v6 349 b10)], v6)) 1 rfl ?_
                                refine e_Ok.sub' (z := v6 349 n7 - 1) rfl (by omega) (by omega) ?_
                                refine e_Ok.if2 rfl (fun h74 => ?_) (fun h74 => ?_)
                                · replace h74 : (v6 349 b10 : Int) = v6 349 n7 - 1 := h74
                                  have hbl : (0 ≤ b10 ∧ b10 < n) ∧ lnx f n7 b10 y9 := by rcases j64 with g | g; exact absurd g (by omega); exact g
                                  have hnl := nrr.lt j62
                                  refine e_Ok.run (t' := (287, [(0, (1, 275)), (1, (0, x)), (2, (0, y)), (3, (0, n)), (6, (0, v3 349 x)), (7, (0, n7)), (8, (0, y8)), (9, (0, y9)), (10, (0, b10))], [(1, 275)], v6)) 1 rfl ?_
                                  refine e_Ok.getr (z := 353) rfl (el_o rfl) rfl rfl ((j56 275 113 (by unfold mSe mCl; omega)).trans (e_Has.eq hT rfl)) (by omega) ?_
                                  refine e_Ok.run (t' := (294, [(0, (1, 275)), (1, (0, x)), (2, (0, y)), (3, (0, n)), (6, (0, v3 349 x)), (7, (0, n7)), (8, (0, y8)), (9, (0, y9)), (10, (0, b10))], [(0, y9), (0, y8), (1, 353)], v6)) 2 rfl ?_
                                  refine e_Ok.ast rfl (el_o rfl) rfl rfl (by omega) ?_
                                  generalize hw75 : e_up v6 353 y8 y9 = w75
                                  have f76 : e_fr mSe w w75 := e_fr.up j56 hw75 (by unfold mSe mCl; omega)
                                  refine e_Ok.run (t' := (299, [(7, (0, b10)), (0, (1, 275)), (1, (0, x)), (2, (0, y)), (3, (0, n)), (6, (0, v3 349 x)), (8, (0, y8)), (9, (0, y9)), (10, (0, b10))], [], w75)) 2 rfl ?_
                                  refine e_Ok.inc (z := y8 + 1) rfl rfl (by omega) (by omega) ?_
                                  show e_Ok 20 elay ecode eI (d + 1) 417 (302, [(8, (0, y8 + 1)), (7, (0, b10)), (0, (1, 275)), (1, (0, x)), (2, (0, y)), (3, (0, n)), (6, (0, v3 349 x)), (9, (0, y9)), (10, (0, b10))], [], w75) _
                                  refine e_Ok.run (t' := (227, [(8, (0, y8 + 1)), (7, (0, b10)), (0, (1, 275)), (1, (0, x)), (2, (0, y)), (3, (0, n)), (6, (0, v3 349 x)), (9, (0, y9)), (10, (0, b10))], [], w75)) 1 rfl ?_
                                  refine e_Ok.sub eAlk (e_sub_of rfl ?_) (ih37 b10 (y8 + 1) w75 ⟨f76, (e_kn.oth j57 hw75 (by decide)), (e_kn.oth j58 hw75 (by decide)), (bfs.next j59 (fun c k g => by rw [← hw75]; exact e_up_ne _ _ (Or.inl (by omega))) (edK.same (fun e => by rw [← hw75]; exact e_up_ne _ _ (Or.inl (by decide))))), (wlk.add j60 (by omega) (by omega) hbl.2 hbl.1 hw75), by omega, (Eq.trans (show w75 349 b10 = v6 349 b10 from by rw [← hw75]; exact e_up_ne _ _ (Or.inl (by decide))) (by omega)), by omega⟩ (by omega))
                                  exact ⟨rfl, rfl, rfl, rfl, rfl, rfl, rfl, trivial⟩
                                · replace h74 : (v6 349 b10 : Int) ≠ v6 349 n7 - 1 := by have q : ¬ ((v6 349 b10 : Int) = v6 349 n7 - 1) := h74; omega
                                  refine e_Ok.inc (z := y9 + 1) rfl rfl (by omega) (by omega) ?_
                                  show e_Ok 20 elay ecode eI (d + 1) 417 (273, [(9, (0, y9 + 1)), (0, (1, 275)), (1, (0, x)), (2, (0, y)), (3, (0, n)), (6, (0, v3 349 x)), (7, (0, n7)), (8, (0, y8)), (10, (0, b10))], [], v6) _
                                  have hnb : ¬ (0 ≤ b10 ∧ v6 349 b10 = v6 349 n7 - 1) := by omega
                                  have hl2 := nrr.lt2 j62 hnb
                                  refine e_Ok.run (t' := (278, [(9, (0, y9 + 1)), (0, (1, 275)), (1, (0, x)), (2, (0, y)), (3, (0, n)), (6, (0, v3 349 x)), (7, (0, n7)), (8, (0, y8)), (10, (0, b10))], [(0, y9 + 1), (0, n7), (1, 275)], v6)) 3 rfl ?_
                                  refine e_Ok.callV rfl (by omega) rfl rfl rfl rfl (c_416 (by omega) (mT_Se j56 hT) hF (plC.fr hP hA j56) hn (by omega) (by omega) j57 j58) (fun r77 w78 h79 => ?_)
                                  obtain ⟨z81, rfl, q80, q80f, q80g, q80d, q80c⟩ := h79
                                  have f82 : e_fr mSe w w78 := e_fr.trans j56 (e_fr.mono q80 (fun c k q => by exact fe_se q))
                                  have q80B := bfs.next j59 (fun c k g => q80 c k (by unfold mFe mCl; omega)) q80d
                                  obtain ⟨rfl, q80c⟩ | ⟨q80r, q80l, q80c⟩ := q80c
                                  · show e_Ok 20 elay ecode eI (d + 1) 417 (281, [(9, (0, y9 + 1)), (0, (1, 275)), (1, (0, x)), (2, (0, y)), (3, (0, n)), (6, (0, v3 349 x)), (7, (0, n7)), (8, (0, y8)), (10, (0, b10))], [(0, (-1))], w78) _
                                    refine e_Ok.run (t' := (246, [(10, (0, (-1))), (9, (0, y9 + 1)), (0, (1, 275)), (1, (0, x)), (2, (0, y)), (3, (0, n)), (6, (0, v3 349 x)), (7, (0, n7)), (8, (0, y8))], [], w78)) 2 rfl ?_
                                    refine e_Ok.sub eAlk (e_sub_of rfl ?_) (ih55 (y9 + 1) (-1) w78 ⟨f82, q80f, q80g, q80B, (wlk.next j60 (fun e => Eq.trans (q80 353 e (by unfold mFe mCl; omega)) ((fun e => rfl) e))), (Eq.trans ((fun e => Eq.trans (q80 349 e (by unfold mFe mCl; omega)) ((fun e => rfl) e)) n7) j61), (nrr.more j62 hnb (fun e => Eq.trans (q80 349 e (by unfold mFe mCl; omega)) ((fun e => rfl) e)) q80d (fun y h => absurd h (q80c y))), by omega, (Or.inl rfl)⟩ (by omega))
                                    exact ⟨rfl, rfl, rfl, rfl, rfl, rfl, rfl, rfl, rfl, trivial⟩
                                  · show e_Ok 20 elay ecode eI (d + 1) 417 (281, [(9, (0, y9 + 1)), (0, (1, 275)), (1, (0, x)), (2, (0, y)), (3, (0, n)), (6, (0, v3 349 x)), (7, (0, n7)), (8, (0, y8)), (10, (0, b10))], [(0, z81)], w78) _
                                    refine e_Ok.run (t' := (246, [(10, (0, z81)), (9, (0, y9 + 1)), (0, (1, 275)), (1, (0, x)), (2, (0, y)), (3, (0, n)), (6, (0, v3 349 x)), (7, (0, n7)), (8, (0, y8))], [], w78)) 2 rfl ?_
                                    refine e_Ok.sub eAlk (e_sub_of rfl ?_) (ih55 (y9 + 1) z81 w78 ⟨f82, q80f, q80g, q80B, (wlk.next j60 (fun e => Eq.trans (q80 353 e (by unfold mFe mCl; omega)) ((fun e => rfl) e))), (Eq.trans ((fun e => Eq.trans (q80 349 e (by unfold mFe mCl; omega)) ((fun e => rfl) e)) n7) j61), (nrr.more j62 hnb (fun e => Eq.trans (q80 349 e (by unfold mFe mCl; omega)) ((fun e => rfl) e)) q80d q80c), by omega, (Or.inr ⟨q80r, q80l.1⟩)⟩ (by omega))
                                    exact ⟨rfl, rfl, rfl, rfl, rfl, rfl, rfl, rfl, rfl, trivial⟩
                          refine e_Ok.sub eAlk (e_sub_of rfl ?_) (hL54 (13 + 1 : Int).toNat 0 (-1) w49 ⟨f53, q51f, q51g, q51B, (wlk.next j43 (fun e => Eq.trans (q51 353 e (by unfold mFe mCl; omega)) ((fun e => rfl) e))), (Eq.trans ((fun e => Eq.trans (q51 349 e (by unfold mFe mCl; omega)) ((fun e => rfl) e)) n7) j45), (nrr.of j42 (by omega) hfn (fun e => Eq.trans (q51 349 e (by unfold mFe mCl; omega)) ((fun e => rfl) e)) q51d (fun y h => absurd h (q51c y))), by omega, (Or.inl rfl)⟩ (by omega))
                          exact ⟨rfl, rfl, rfl, rfl, rfl, rfl, rfl, rfl, rfl, trivial⟩
                        · show e_Ok 20 elay ecode eI (d + 1) 417 (244, [(9, (0, 0)), (0, (1, 275)), (1, (0, x)), (2, (0, y)), (3, (0, n)), (6, (0, v3 349 x)), (7, (0, n7)), (8, (0, y8))], [(0, z52)], w49) _
                          refine e_Ok.run (t' := (246, [(10, (0, z52)), (9, (0, 0)), (0, (1, 275)), (1, (0, x)), (2, (0, y)), (3, (0, n)), (6, (0, v3 349 x)), (7, (0, n7)), (8, (0, y8))], [], w49)) 1 rfl ?_
                          have hL83 : ∀ (nn : Nat) (y9 : Int) (b10 : Int) (v6 : eW), e_fr mSe w v6 ∧ e_kn v6 351 0 (n - 1) ∧ e_kn v6 352 0 (6 * n - 1) ∧ bfs v6 f m n y5 ∧ wlk v6 f m n x y8 n7 ∧ v6 349 n7 = v3 349 x - y8 ∧ nrr v6 f m n n7 y9 b10 ∧ (0 ≤ y9 ∧ y9 ≤ 12) ∧ ((b10 = -1 ∨ ((0 ≤ b10 ∧ b10 < n) ∧ lnx f n7 b10 y9))) → 13 - y9 < nn → e_Ok 20 elay ecode eI (d + 1) 417 (246, [(0, (1, 275)), (1, (0, x)), (2, (0, y)), (3, (0, n)), (6, (0, v3 349 x)), (7, (0, n7)), (8, (0, y8)), (9, (0, y9)), (10, (0, b10))], [], v6) (fun r w' => ∃ z : Int, r = [(0, z)] ∧ e_fr mSe w w' ∧ (z = -1 ∨ ((0 ≤ z ∧ z ≤ 999) ∧ ∃ y', wlk w' f m n x z y'))) := by
                            intro nn
                            induction nn with
                            | zero => intro y9 b10 v6 hj hm; obtain ⟨j85, j86, j87, j88, j89, j90, j91, j92, j93⟩ := hj; exfalso; omega
                            | succ nn ih84 =>
                              intro y9 b10 v6 hj hm
                              obtain ⟨j85, j86, j87, j88, j89, j90, j91, j92, j93⟩ := hj
                              have hbs := nrr.lt j91
                              refine e_Ok.run (t' := (248, [(0, (1, 275)), (1, (0, x)), (2, (0, y)), (3, (0, n)), (6, (0, v3 349 x)), (7, (0, n7)), (8, (0, y8)), (9, (0, y9)), (10, (0, b10))], [(0, b10)], v6)) 1 rfl ?_
                              refine e_Ok.if1 rfl (fun h94 => ?_) (fun h94 => ?_)
                              · replace h94 : (b10 : Int) < 0 := h94
                                refine e_Ok.inc (z := y9 + 1) rfl rfl (by omega) (by omega) ?_
                                show e_Ok 20 elay ecode eI (d + 1) 417 (273, [(9, (0, y9 + 1)), (0, (1, 275)), (1, (0, x)), (2, (0, y)), (3, (0, n)), (6, (0, v3 349 x)), (7, (0, n7)), (8, (0, y8)), (10, (0, b10))], [], v6) _
                                have hnb : ¬ (0 ≤ b10 ∧ v6 349 b10 = v6 349 n7 - 1) := by omega
                                have hl2 := nrr.lt2 j91 hnb
                                refine e_Ok.run (t' := (278, [(9, (0, y9 + 1)), (0, (1, 275)), (1, (0, x)), (2, (0, y)), (3, (0, n)), (6, (0, v3 349 x)), (7, (0, n7)), (8, (0, y8)), (10, (0, b10))], [(0, y9 + 1), (0, n7), (1, 275)], v6)) 3 rfl ?_
                                refine e_Ok.callV rfl (by omega) rfl rfl rfl rfl (c_416 (by omega) (mT_Se j85 hT) hF (plC.fr hP hA j85) hn (by omega) (by omega) j86 j87) (fun r95 w101 h103 => ?_)
                                obtain ⟨z105, rfl, q104, q104f, q104g, q104d, q104c⟩ := h103
                                have f106 : e_fr mSe w w101 := e_fr.trans j85 (e_fr.mono q104 (fun c k q => by exact fe_se q))
                                have q104B := bfs.next j88 (fun c k g => q104 c k (by unfold mFe mCl; omega)) q104d
                                obtain ⟨rfl, q104c⟩ | ⟨q104r, q104l, q104c⟩ := q104c
                                · show e_Ok 20 elay ecode eI (d + 1) 417 (281, [(9, (0, y9 + 1)), (0, (1, 275)), (1, (0, x)), (2, (0, y)), (3, (0, n)), (6, (0, v3 349 x)), (7, (0, n7)), (8, (0, y8)), (10, (0, b10))], [(0, (-1))], w101) _
                                  refine e_Ok.run (t' := (246, [(10, (0, (-1))), (9, (0, y9 + 1)), (0, (1, 275)), (1, (0, x)), (2, (0, y)), (3, (0, n)), (6, (0, v3 349 x)), (7, (0, n7)), (8, (0, y8))], [], w101)) 2 rfl ?_
                                  refine e_Ok.sub eAlk (e_sub_of rfl ?_) (ih84 (y9 + 1) (-1) w101 ⟨f106, q104f, q104g, q104B, (wlk.next j89 (fun e => Eq.trans (q104 353 e (by unfold mFe mCl; omega)) ((fun e => rfl) e))), (Eq.trans ((fun e => Eq.trans (q104 349 e (by unfold mFe mCl; omega)) ((fun e => rfl) e)) n7) j90), (nrr.more j91 hnb (fun e => Eq.trans (q104 349 e (by unfold mFe mCl; omega)) ((fun e => rfl) e)) q104d (fun y h => absurd h (q104c y))), by omega, (Or.inl rfl)⟩ (by omega))
                                  exact ⟨rfl, rfl, rfl, rfl, rfl, rfl, rfl, rfl, rfl, trivial⟩
                                · show e_Ok 20 elay ecode eI (d + 1) 417 (281, [(9, (0, y9 + 1)), (0, (1, 275)), (1, (0, x)), (2, (0, y)), (3, (0, n)), (6, (0, v3 349 x)), (7, (0, n7)), (8, (0, y8)), (10, (0, b10))], [(0, z105)], w101) _
                                  refine e_Ok.run (t' := (246, [(10, (0, z105)), (9, (0, y9 + 1)), (0, (1, 275)), (1, (0, x)), (2, (0, y)), (3, (0, n)), (6, (0, v3 349 x)), (7, (0, n7)), (8, (0, y8))], [], w101)) 2 rfl ?_
                                  refine e_Ok.sub eAlk (e_sub_of rfl ?_) (ih84 (y9 + 1) z105 w101 ⟨f106, q104f, q104g, q104B, (wlk.next j89 (fun e => Eq.trans (q104 353 e (by unfold mFe mCl; omega)) ((fun e => rfl) e))), (Eq.trans ((fun e => Eq.trans (q104 349 e (by unfold mFe mCl; omega)) ((fun e => rfl) e)) n7) j90), (nrr.more j91 hnb (fun e => Eq.trans (q104 349 e (by unfold mFe mCl; omega)) ((fun e => rfl) e)) q104d q104c), by omega, (Or.inr ⟨q104r, q104l.1⟩)⟩ (by omega))
                                  exact ⟨rfl, rfl, rfl, rfl, rfl, rfl, rfl, rfl, rfl, trivial⟩
                              · replace h94 : (b10 : Int) ≥ 0 := by have q : ¬ ((b10 : Int) < 0) := h94; omega
                                have hb0 : (0 ≤ b10 ∧ b10 < n) := by rcases j93 with g | g; exact absurd g (by omega); exact g.1
                                refine e_Ok.run (t' := (252, [(0, (1, 275)), (1, (0, x)), (2, (0, y)), (3, (0, n)), (6, (0, v3 349 x)), (7, (0, n7)), (8, (0, y8)), (9, (0, y9)), (10, (0, b10))], [(1, 275)], v6)) 1 rfl ?_
                                refine e_Ok.getr (z := 349) rfl (el_o rfl) rfl rfl ((j85 275 106 (by unfold mSe mCl; omega)).trans (e_Has.eq hT rfl)) (by omega) ?_
                                refine e_Ok.run (t' := (257, [(0, (1, 275)), (1, (0, x)), (2, (0, y)), (3, (0, n)), (6, (0, v3 349 x)), (7, (0, n7)), (8, (0, y8)), (9, (0, y9)), (10, (0, b10))], [(0, b10), (1, 349)], v6)) 1 rfl ?_
                                have h107 := (bfs.d j88 (x := b10) (by omega) (by omega))
                                refine e_Ok.ald (z := v6 349 b10) rfl (el_o rfl) rfl (by omega) rfl (by omega) ?_
                                refine e_Ok.run (t' := (259, [(0, (1, 275)), (1, (0, x)), (2, (0, y)), (3, (0, n)), (6, (0, v3 349 x)), (7, (0, n7)), (8, (0, y8)), (9, (0, y9)), (10, (0, b10))], [(1, 275), (0, v6 349 b10)], v6)) 1 rfl ?_
                                refine e_Ok.getr (z := 349) rfl (el_o rfl) rfl rfl ((j85 275 106 (by unfold mSe mCl; omega)).trans (e_Has.eq hT rfl)) (by omega) ?_
                                refine e_Ok.run (t' := (264, [(0, (1, 275)), (1, (0, x)), (2, (0, y)), (3, (0, n)), (6, (0, v3 349 x)), (7, (0, n7)), (8, (0, y8)), (9, (0, y9)), (10, (0, b10))], [(0, n7), (1, 349), (0, v6 349 b10)], v6)) 1 rfl ?_
                                have h108 := (bfs.d j88 (x := n7) (by omega) (by omega))
                                refine e_Ok.ald (z := v6 349 n7) rfl (el_o rfl) rfl (by omega) rfl (by omega) ?_
                                refine e_Ok.run (t' := (266, [(0, (1, 275)), (1, (0, x)), (2, (0, y)), (3, (0, n)), (6, (0, v3 349 x)), (7, (0, n7)), (8, (0, y8)), (9, (0, y9)), (10, (0, b10))], [(0, 1), (0, v6 349 n7), (0, v6 349 b10)], v6)) 1 rfl ?_
                                refine e_Ok.sub' (z := v6 349 n7 - 1) rfl (by omega) (by omega) ?_
                                refine e_Ok.if2 rfl (fun h109 => ?_) (fun h109 => ?_)
                                · replace h109 : (v6 349 b10 : Int) = v6 349 n7 - 1 := h109
                                  have hbl : (0 ≤ b10 ∧ b10 < n) ∧ lnx f n7 b10 y9 := by rcases j93 with g | g; exact absurd g (by omega); exact g
                                  have hnl := nrr.lt j91
                                  refine e_Ok.run (t' := (287, [(0, (1, 275)), (1, (0, x)), (2, (0, y)), (3, (0, n)), (6, (0, v3 349 x)), (7, (0, n7)), (8, (0, y8)), (9, (0, y9)), (10, (0, b10))], [(1, 275)], v6)) 1 rfl ?_
                                  refine e_Ok.getr (z := 353) rfl (el_o rfl) rfl rfl ((j85 275 113 (by unfold mSe mCl; omega)).trans (e_Has.eq hT rfl)) (by omega) ?_
                                  refine e_Ok.run (t' := (294, [(0, (1, 275)), (1, (0, x)), (2, (0, y)), (3, (0, n)), (6, (0, v3 349 x)), (7, (0, n7)), (8, (0, y8)), (9, (0, y9)), (10, (0, b10))], [(0, y9), (0, y8), (1, 353)], v6)) 2 rfl ?_
                                  refine e_Ok.ast rfl (el_o rfl) rfl rfl (by omega) ?_
                                  generalize hw110 : e_up v6 353 y8 y9 = w110
                                  have f111 : e_fr mSe w w110 := e_fr.up j85 hw110 (by unfold mSe mCl; omega)
                                  refine e_Ok.run (t' := (299, [(7, (0, b10)), (0, (1, 275)), (1, (0, x)), (2, (0, y)), (3, (0, n)), (6, (0, v3 349 x)), (8, (0, y8)), (9, (0, y9)), (10, (0, b10))], [], w110)) 2 rfl ?_
                                  refine e_Ok.inc (z := y8 + 1) rfl rfl (by omega) (by omega) ?_
                                  show e_Ok 20 elay ecode eI (d + 1) 417 (302, [(8, (0, y8 + 1)), (7, (0, b10)), (0, (1, 275)), (1, (0, x)), (2, (0, y)), (3, (0, n)), (6, (0, v3 349 x)), (9, (0, y9)), (10, (0, b10))], [], w110) _
                                  refine e_Ok.run (t' := (227, [(8, (0, y8 + 1)), (7, (0, b10)), (0, (1, 275)), (1, (0, x)), (2, (0, y)), (3, (0, n)), (6, (0, v3 349 x)), (9, (0, y9)), (10, (0, b10))], [], w110)) 1 rfl ?_
                                  refine e_Ok.sub eAlk (e_sub_of rfl ?_) (ih37 b10 (y8 + 1) w110 ⟨f111, (e_kn.oth j86 hw110 (by decide)), (e_kn.oth j87 hw110 (by decide)), (bfs.next j88 (fun c k g => by rw [← hw110]; exact e_up_ne _ _ (Or.inl (by omega))) (edK.same (fun e => by rw [← hw110]; exact e_up_ne _ _ (Or.inl (by decide))))), (wlk.add j89 (by omega) (by omega) hbl.2 hbl.1 hw110), by omega, (Eq.trans (show w110 349 b10 = v6 349 b10 from by rw [← hw110]; exact e_up_ne _ _ (Or.inl (by decide))) (by omega)), by omega⟩ (by omega))
                                  exact ⟨rfl, rfl, rfl, rfl, rfl, rfl, rfl, trivial⟩
                                · replace h109 : (v6 349 b10 : Int) ≠ v6 349 n7 - 1 := by have q : ¬ ((v6 349 b10 : Int) = v6 349 n7 - 1) := h109; omega
                                  refine e_Ok.inc (z := y9 + 1) rfl rfl (by omega) (by omega) ?_
                                  show e_Ok 20 elay ecode eI (d + 1) 417 (273, [(9, (0, y9 + 1)), (0, (1, 275)), (1, (0, x)), (2, (0, y)), (3, (0, n)), (6, (0, v3 349 x)), (7, (0, n7)), (8, (0, y8)), (10, (0, b10))], [], v6) _
                                  have hnb : ¬ (0 ≤ b10 ∧ v6 349 b10 = v6 349 n7 - 1) := by omega
                                  have hl2 := nrr.lt2 j91 hnb
                                  refine e_Ok.run (t' := (278, [(9, (0, y9 + 1)), (0, (1, 275)), (1, (0, x)), (2, (0, y)), (3, (0, n)), (6, (0, v3 349 x)), (7, (0, n7)), (8, (0, y8)), (10, (0, b10))], [(0, y9 + 1), (0, n7), (1, 275)], v6)) 3 rfl ?_
                                  refine e_Ok.callV rfl (by omega) rfl rfl rfl rfl (c_416 (by omega) (mT_Se j85 hT) hF (plC.fr hP hA j85) hn (by omega) (by omega) j86 j87) (fun r112 w113 h114 => ?_)
                                  obtain ⟨z116, rfl, q115, q115f, q115g, q115d, q115c⟩ := h114
                                  have f117 : e_fr mSe w w113 := e_fr.trans j85 (e_fr.mono q115 (fun c k q => by exact fe_se q))
                                  have q115B := bfs.next j88 (fun c k g => q115 c k (by unfold mFe mCl; omega)) q115d
                                  obtain ⟨rfl, q115c⟩ | ⟨q115r, q115l, q115c⟩ := q115c
                                  · show e_Ok 20 elay ecode eI (d + 1) 417 (281, [(9, (0, y9 + 1)), (0, (1, 275)), (1, (0, x)), (2, (0, y)), (3, (0, n)), (6, (0, v3 349 x)), (7, (0, n7)), (8, (0, y8)), (10, (0, b10))], [(0, (-1))], w113) _
                                    refine e_Ok.run (t' := (246, [(10, (0, (-1))), (9, (0, y9 + 1)), (0, (1, 275)), (1, (0, x)), (2, (0, y)), (3, (0, n)), (6, (0, v3 349 x)), (7, (0, n7)), (8, (0, y8))], [], w113)) 2 rfl ?_
                                    refine e_Ok.sub eAlk (e_sub_of rfl ?_) (ih84 (y9 + 1) (-1) w113 ⟨f117, q115f, q115g, q115B, (wlk.next j89 (fun e => Eq.trans (q115 353 e (by unfold mFe mCl; omega)) ((fun e => rfl) e))), (Eq.trans ((fun e => Eq.trans (q115 349 e (by unfold mFe mCl; omega)) ((fun e => rfl) e)) n7) j90), (nrr.more j91 hnb (fun e => Eq.trans (q115 349 e (by unfold mFe mCl; omega)) ((fun e => rfl) e)) q115d (fun y h => absurd h (q115c y))), by omega, (Or.inl rfl)⟩ (by omega))
                                    exact ⟨rfl, rfl, rfl, rfl, rfl, rfl, rfl, rfl, rfl, trivial⟩
                                  · show e_Ok 20 elay ecode eI (d + 1) 417 (281, [(9, (0, y9 + 1)), (0, (1, 275)), (1, (0, x)), (2, (0, y)), (3, (0, n)), (6, (0, v3 349 x)), (7, (0, n7)), (8, (0, y8)), (10, (0, b10))], [(0, z116)], w113) _
                                    refine e_Ok.run (t' := (246, [(10, (0, z116)), (9, (0, y9 + 1)), (0, (1, 275)), (1, (0, x)), (2, (0, y)), (3, (0, n)), (6, (0, v3 349 x)), (7, (0, n7)), (8, (0, y8))], [], w113)) 2 rfl ?_
                                    refine e_Ok.sub eAlk (e_sub_of rfl ?_) (ih84 (y9 + 1) z116 w113 ⟨f117, q115f, q115g, q115B, (wlk.next j89 (fun e => Eq.trans (q115 353 e (by unfold mFe mCl; omega)) ((fun e => rfl) e))), (Eq.trans ((fun e => Eq.trans (q115 349 e (by unfold mFe mCl; omega)) ((fun e => rfl) e)) n7) j90), (nrr.more j91 hnb (fun e => Eq.trans (q115 349 e (by unfold mFe mCl; omega)) ((fun e => rfl) e)) q115d q115c), by omega, (Or.inr ⟨q115r, q115l.1⟩)⟩ (by omega))
                                    exact ⟨rfl, rfl, rfl, rfl, rfl, rfl, rfl, rfl, rfl, trivial⟩
                          refine e_Ok.sub eAlk (e_sub_of rfl ?_) (hL83 (13 + 1 : Int).toNat 0 z52 w49 ⟨f53, q51f, q51g, q51B, (wlk.next j43 (fun e => Eq.trans (q51 353 e (by unfold mFe mCl; omega)) ((fun e => rfl) e))), (Eq.trans ((fun e => Eq.trans (q51 349 e (by unfold mFe mCl; omega)) ((fun e => rfl) e)) n7) j45), (nrr.of j42 (by omega) hfn (fun e => Eq.trans (q51 349 e (by unfold mFe mCl; omega)) ((fun e => rfl) e)) q51d q51c), by omega, (Or.inr ⟨q51r, q51l.1⟩)⟩ (by omega))
                          exact ⟨rfl, rfl, rfl, rfl, rfl, rfl, rfl, rfl, rfl, trivial⟩
                  refine e_Ok.sub eAlk (e_sub_of rfl ?_) (hL36 (1001 + 1 : Int).toNat x 0 v3 ⟨j29, j30, j31, j32, (wlk.zero _ _ _ _ _), by omega, by omega, by omega⟩ (by omega))
                  exact ⟨rfl, rfl, rfl, rfl, rfl, rfl, rfl, trivial⟩
                · replace h34 : (y6 : Int) < y5 := by have q : ¬ ((y6 : Int) ≥ y5) := h34; omega
                  refine e_Ok.run (t' := (120, [(0, (1, 275)), (1, (0, x)), (2, (0, y)), (3, (0, n)), (4, (0, 2 * m)), (5, (0, y5)), (6, (0, y6))], [(1, 275)], v3)) 1 rfl ?_
                  refine e_Ok.getr (z := 349) rfl (el_o rfl) rfl rfl ((j29 275 106 (by unfold mSe mCl; omega)).trans (e_Has.eq hT rfl)) (by omega) ?_
                  refine e_Ok.run (t' := (124, [(0, (1, 275)), (1, (0, x)), (2, (0, y)), (3, (0, n)), (4, (0, 2 * m)), (5, (0, y5)), (6, (0, y6))], [(0, x), (1, 349)], v3)) 1 rfl ?_
                  have h118 := (bfs.d j32 (x := x) (by omega) (by omega))
                  refine e_Ok.ald (z := v3 349 x) rfl (el_o rfl) rfl (by omega) rfl (by omega) ?_
                  refine e_Ok.if1 rfl (fun h119 => ?_) (fun h119 => ?_)
                  · replace h119 : (v3 349 x : Int) ≥ 0 := h119
                    refine e_Ok.run (t' := (214, [(0, (1, 275)), (1, (0, x)), (2, (0, y)), (3, (0, n)), (4, (0, 2 * m)), (5, (0, y5)), (6, (0, y6))], [(1, 275)], v3)) 1 rfl ?_
                    refine e_Ok.getr (z := 349) rfl (el_o rfl) rfl rfl ((j29 275 106 (by unfold mSe mCl; omega)).trans (e_Has.eq hT rfl)) (by omega) ?_
                    refine e_Ok.run (t' := (218, [(0, (1, 275)), (1, (0, x)), (2, (0, y)), (3, (0, n)), (4, (0, 2 * m)), (5, (0, y5)), (6, (0, y6))], [(0, x), (1, 349)], v3)) 1 rfl ?_
                    refine e_Ok.ald (z := v3 349 x) rfl (el_o rfl) rfl (by omega) rfl (by omega) ?_
                    refine e_Ok.run (t' := (227, [(8, (0, 0)), (7, (0, x)), (6, (0, v3 349 x)), (0, (1, 275)), (1, (0, x)), (2, (0, y)), (3, (0, n)), (4, (0, 2 * m)), (5, (0, y5))], [], v3)) 5 rfl ?_
                    have hL120 : ∀ (nn : Nat) (n7 : Int) (y8 : Int) (v5 : eW), e_fr mSe w v5 ∧ e_kn v5 351 0 (n - 1) ∧ e_kn v5 352 0 (6 * n - 1) ∧ bfs v5 f m n y5 ∧ wlk v5 f m n x y8 n7 ∧ (0 ≤ n7 ∧ n7 < n) ∧ v5 349 n7 = v3 349 x - y8 ∧ (0 ≤ y8 ∧ (y8 ≤ v3 349 x ∨ y8 = 0)) → 1001 - y8 < nn → e_Ok 20 elay ecode eI (d + 1) 417 (227, [(0, (1, 275)), (1, (0, x)), (2, (0, y)), (3, (0, n)), (6, (0, v3 349 x)), (7, (0, n7)), (8, (0, y8))], [], v5) (fun r w' => ∃ z : Int, r = [(0, z)] ∧ e_fr mSe w w' ∧ (z = -1 ∨ ((0 ≤ z ∧ z ≤ 999) ∧ ∃ y', wlk w' f m n x z y'))) := by
                      intro nn
                      induction nn with
                      | zero => intro n7 y8 v5 hj hm; obtain ⟨j122, j123, j124, j125, j126, j127, j128, j129⟩ := hj; exfalso; omega
                      | succ nn ih121 =>
                        intro n7 y8 v5 hj hm
                        obtain ⟨j122, j123, j124, j125, j126, j127, j128, j129⟩ := hj
                        refine e_Ok.run (t' := (231, [(0, (1, 275)), (1, (0, x)), (2, (0, y)), (3, (0, n)), (6, (0, v3 349 x)), (7, (0, n7)), (8, (0, y8))], [(0, v3 349 x), (0, y8)], v5)) 2 rfl ?_
                        refine e_Ok.if2 rfl (fun h130 => ?_) (fun h130 => ?_)
                        · replace h130 : (y8 : Int) ≥ v3 349 x := h130
                          refine e_Ok.run (t' := (307, [(0, (1, 275)), (1, (0, x)), (2, (0, y)), (3, (0, n)), (6, (0, v3 349 x)), (7, (0, n7)), (8, (0, y8))], [(0, v3 349 x)], v5)) 1 rfl ?_
                          refine e_Ok.rets rfl rfl ?_
                          refine ⟨_, rfl, j122, Decidable.byCases (p := 0 ≤ v3 349 x) (fun g => Or.inr ⟨by omega, _, (show y8 = v3 349 x by omega) ▸ j126⟩) (fun g => Or.inl (by omega))⟩
                        · replace h130 : (y8 : Int) < v3 349 x := by have q : ¬ ((y8 : Int) ≥ v3 349 x) := h130; omega
                          refine e_Ok.run (t' := (237, [(9, (0, 0)), (0, (1, 275)), (1, (0, x)), (2, (0, y)), (3, (0, n)), (6, (0, v3 349 x)), (7, (0, n7)), (8, (0, y8))], [], v5)) 2 rfl ?_
                          have hfn : 1 ≤ v5 349 n7 := by omega
                          have hm2 : 0 < 2 * m := by obtain ⟨yy, ss, -, q2, -⟩ := j125.2.2.2.2 n7 (by omega) (by omega) hfn; omega
                          refine e_Ok.run (t' := (241, [(9, (0, 0)), (0, (1, 275)), (1, (0, x)), (2, (0, y)), (3, (0, n)), (6, (0, v3 349 x)), (7, (0, n7)), (8, (0, y8))], [(0, 0), (0, n7), (1, 275)], v5)) 3 rfl ?_
                          refine e_Ok.callV rfl (by omega) rfl rfl rfl rfl (c_416 (by omega) (mT_Se j122 hT) hF (plC.fr hP hA j122) hn (by omega) (by omega) j123 j124) (fun r131 w132 h133 => ?_)
                          obtain ⟨z135, rfl, q134, q134f, q134g, q134d, q134c⟩ := h133
                          have f136 : e_fr mSe w w132 := e_fr.trans j122 (e_fr.mono q134 (fun c k q => by exact fe_se q))
                          have q134B := bfs.next j125 (fun c k g => q134 c k (by unfold mFe mCl; omega)) q134d
                          obtain ⟨rfl, q134c⟩ | ⟨q134r, q134l, q134c⟩ := q134c
                          · show e_Ok 20 elay ecode eI (d + 1) 417 (244, [(9, (0, 0)), (0, (1, 275)), (1, (0, x)), (2, (0, y)), (3, (0, n)), (6, (0, v3 349 x)), (7, (0, n7)), (8, (0, y8))], [(0, (-1))], w132) _
                            refine e_Ok.run (t' := (246, [(10, (0, (-1))), (9, (0, 0)), (0, (1, 275)), (1, (0, x)), (2, (0, y)), (3, (0, n)), (6, (0, v3 349 x)), (7, (0, n7)), (8, (0, y8))], [], w132)) 1 rfl ?_
                            have hL137 : ∀ (nn : Nat) (y9 : Int) (b10 : Int) (v6 : eW), e_fr mSe w v6 ∧ e_kn v6 351 0 (n - 1) ∧ e_kn v6 352 0 (6 * n - 1) ∧ bfs v6 f m n y5 ∧ wlk v6 f m n x y8 n7 ∧ v6 349 n7 = v3 349 x - y8 ∧ nrr v6 f m n n7 y9 b10 ∧ (0 ≤ y9 ∧ y9 ≤ 12) ∧ ((b10 = -1 ∨ ((0 ≤ b10 ∧ b10 < n) ∧ lnx f n7 b10 y9))) → 13 - y9 < nn → e_Ok 20 elay ecode eI (d + 1) 417 (246, [(0, (1, 275)), (1, (0, x)), (2, (0, y)), (3, (0, n)), (6, (0, v3 349 x)), (7, (0, n7)), (8, (0, y8)), (9, (0, y9)), (10, (0, b10))], [], v6) (fun r w' => ∃ z : Int, r = [(0, z)] ∧ e_fr mSe w w' ∧ (z = -1 ∨ ((0 ≤ z ∧ z ≤ 999) ∧ ∃ y', wlk w' f m n x z y'))) := by
                              intro nn
                              induction nn with
                              | zero => intro y9 b10 v6 hj hm; obtain ⟨j139, j140, j141, j142, j143, j144, j145, j146, j147⟩ := hj; exfalso; omega
                              | succ nn ih138 =>
                                intro y9 b10 v6 hj hm
                                obtain ⟨j139, j140, j141, j142, j143, j144, j145, j146, j147⟩ := hj
                                have hbs := nrr.lt j145
                                refine e_Ok.run (t' := (248, [(0, (1, 275)), (1, (0, x)), (2, (0, y)), (3, (0, n)), (6, (0, v3 349 x)), (7, (0, n7)), (8, (0, y8)), (9, (0, y9)), (10, (0, b10))], [(0, b10)], v6)) 1 rfl ?_
                                refine e_Ok.if1 rfl (fun h148 => ?_) (fun h148 => ?_)
                                · replace h148 : (b10 : Int) < 0 := h148
                                  refine e_Ok.inc (z := y9 + 1) rfl rfl (by omega) (by omega) ?_
                                  show e_Ok 20 elay ecode eI (d + 1) 417 (273, [(9, (0, y9 + 1)), (0, (1, 275)), (1, (0, x)), (2, (0, y)), (3, (0, n)), (6, (0, v3 349 x)), (7, (0, n7)), (8, (0, y8)), (10, (0, b10))], [], v6) _
                                  have hnb : ¬ (0 ≤ b10 ∧ v6 349 b10 = v6 349 n7 - 1) := by omega
                                  have hl2 := nrr.lt2 j145 hnb
                                  refine e_Ok.run (t' := (278, [(9, (0, y9 + 1)), (0, (1, 275)), (1, (0, x)), (2, (0, y)), (3, (0, n)), (6, (0, v3 349 x)), (7, (0, n7)), (8, (0, y8)), (10, (0, b10))], [(0, y9 + 1), (0, n7), (1, 275)], v6)) 3 rfl ?_
                                  refine e_Ok.callV rfl (by omega) rfl rfl rfl rfl (c_416 (by omega) (mT_Se j139 hT) hF (plC.fr hP hA j139) hn (by omega) (by omega) j140 j141) (fun r149 w150 h151 => ?_)
                                  obtain ⟨z153, rfl, q152, q152f, q152g, q152d, q152c⟩ := h151
                                  have f154 : e_fr mSe w w150 := e_fr.trans j139 (e_fr.mono q152 (fun c k q => by exact fe_se q))
                                  have q152B := bfs.next j142 (fun c k g => q152 c k (by unfold mFe mCl; omega)) q152d
                                  obtain ⟨rfl, q152c⟩ | ⟨q152r, q152l, q152c⟩ := q152c
                                  · show e_Ok 20 elay ecode eI (d + 1) 417 (281, [(9, (0, y9 + 1)), (0, (1, 275)), (1, (0, x)), (2, (0, y)), (3, (0, n)), (6, (0, v3 349 x)), (7, (0, n7)), (8, (0, y8)), (10, (0, b10))], [(0, (-1))], w150) _
                                    refine e_Ok.run (t' := (246, [(10, (0, (-1))), (9, (0, y9 + 1)), (0, (1, 275)), (1, (0, x)), (2, (0, y)), (3, (0, n)), (6, (0, v3 349 x)), (7, (0, n7)), (8, (0, y8))], [], w150)) 2 rfl ?_
                                    refine e_Ok.sub eAlk (e_sub_of rfl ?_) (ih138 (y9 + 1) (-1) w150 ⟨f154, q152f, q152g, q152B, (wlk.next j143 (fun e => Eq.trans (q152 353 e (by unfold mFe mCl; omega)) ((fun e => rfl) e))), (Eq.trans ((fun e => Eq.trans (q152 349 e (by unfold mFe mCl; omega)) ((fun e => rfl) e)) n7) j144), (nrr.more j145 hnb (fun e => Eq.trans (q152 349 e (by unfold mFe mCl; omega)) ((fun e => rfl) e)) q152d (fun y h => absurd h (q152c y))), by omega, (Or.inl rfl)⟩ (by omega))
                                    exact ⟨rfl, rfl, rfl, rfl, rfl, rfl, rfl, rfl, rfl, trivial⟩
                                  · show e_Ok 20 elay ecode eI (d + 1) 417 (281, [(9, (0, y9 + 1)), (0, (1, 275)), (1, (0, x)), (2, (0, y)), (3, (0, n)), (6, (0, v3 349 x)), (7, (0, n7)), (8, (0, y8)), (10, (0, b10))], [(0, z153)], w150) _
                                    refine e_Ok.run (t' := (246, [(10, (0, z153)), (9, (0, y9 + 1)), (0, (1, 275)), (1, (0, x)), (2, (0, y)), (3, (0, n)), (6, (0, v3 349 x)), (7, (0, n7)), (8, (0, y8))], [], w150)) 2 rfl ?_
                                    refine e_Ok.sub eAlk (e_sub_of rfl ?_) (ih138 (y9 + 1) z153 w150 ⟨f154, q152f, q152g, q152B, (wlk.next j143 (fun e => Eq.trans (q152 353 e (by unfold mFe mCl; omega)) ((fun e => rfl) e))), (Eq.trans ((fun e => Eq.trans (q152 349 e (by unfold mFe mCl; omega)) ((fun e => rfl) e)) n7) j144), (nrr.more j145 hnb (fun e => Eq.trans (q152 349 e (by unfold mFe mCl; omega)) ((fun e => rfl) e)) q152d q152c), by omega, (Or.inr ⟨q152r, q152l.1⟩)⟩ (by omega))
                                    exact ⟨rfl, rfl, rfl, rfl, rfl, rfl, rfl, rfl, rfl, trivial⟩
                                · replace h148 : (b10 : Int) ≥ 0 := by have q : ¬ ((b10 : Int) < 0) := h148; omega
                                  have hb0 : (0 ≤ b10 ∧ b10 < n) := by rcases j147 with g | g; exact absurd g (by omega); exact g.1
                                  refine e_Ok.run (t' := (252, [(0, (1, 275)), (1, (0, x)), (2, (0, y)), (3, (0, n)), (6, (0, v3 349 x)), (7, (0, n7)), (8, (0, y8)), (9, (0, y9)), (10, (0, b10))], [(1, 275)], v6)) 1 rfl ?_
                                  refine e_Ok.getr (z := 349) rfl (el_o rfl) rfl rfl ((j139 275 106 (by unfold mSe mCl; omega)).trans (e_Has.eq hT rfl)) (by omega) ?_
                                  refine e_Ok.run (t' := (257, [(0, (1, 275)), (1, (0, x)), (2, (0, y)), (3, (0, n)), (6, (0, v3 349 x)), (7, (0, n7)), (8, (0, y8)), (9, (0, y9)), (10, (0, b10))], [(0, b10), (1, 349)], v6)) 1 rfl ?_
                                  have h155 := (bfs.d j142 (x := b10) (by omega) (by omega))
                                  refine e_Ok.ald (z := v6 349 b10) rfl (el_o rfl) rfl (by omega) rfl (by omega) ?_
                                  refine e_Ok.run (t' := (259, [(0, (1, 275)), (1, (0, x)), (2, (0, y)), (3, (0, n)), (6, (0, v3 349 x)), (7, (0, n7)), (8, (0, y8)), (9, (0, y9)), (10, (0, b10))], [(1, 275), (0, v6 349 b10)], v6)) 1 rfl ?_
                                  refine e_Ok.getr (z := 349) rfl (el_o rfl) rfl rfl ((j139 275 106 (by unfold mSe mCl; omega)).trans (e_Has.eq hT rfl)) (by omega) ?_
                                  refine e_Ok.run (t' := (264, [(0, (1, 275)), (1, (0, x)), (2, (0, y)), (3, (0, n)), (6, (0, v3 349 x)), (7, (0, n7)), (8, (0, y8)), (9, (0, y9)), (10, (0, b10))], [(0, n7), (1, 349), (0, v6 349 b10)], v6)) 1 rfl ?_
                                  have h156 := (bfs.d j142 (x := n7) (by omega) (by omega))
                                  refine e_Ok.ald (z := v6 349 n7) rfl (el_o rfl) rfl (by omega) rfl (by omega) ?_
                                  refine e_Ok.run (t' := (266, [(0, (1, 275)), (1, (0, x)), (2, (0, y)), (3, (0, n)), (6, (0, v3 349 x)), (7, (0, n7)), (8, (0, y8)), (9, (0, y9)), (10, (0, b10))], [(0, 1), (0, v6 349 n7), (0, v6 349 b10)], v6)) 1 rfl ?_
                                  refine e_Ok.sub' (z := v6 349 n7 - 1) rfl (by omega) (by omega) ?_
                                  refine e_Ok.if2 rfl (fun h157 => ?_) (fun h157 => ?_)
                                  · replace h157 : (v6 349 b10 : Int) = v6 349 n7 - 1 := h157
                                    have hbl : (0 ≤ b10 ∧ b10 < n) ∧ lnx f n7 b10 y9 := by rcases j147 with g | g; exact absurd g (by omega); exact g
                                    have hnl := nrr.lt j145
                                    refine e_Ok.run (t' := (287, [(0, (1, 275)), (1, (0, x)), (2, (0, y)), (3, (0, n)), (6, (0, v3 349 x)), (7, (0, n7)), (8, (0, y8)), (9, (0, y9)), (10, (0, b10))], [(1, 275)], v6)) 1 rfl ?_
                                    refine e_Ok.getr (z := 353) rfl (el_o rfl) rfl rfl ((j139 275 113 (by unfold mSe mCl; omega)).trans (e_Has.eq hT rfl)) (by omega) ?_
                                    refine e_Ok.run (t' := (294, [(0, (1, 275)), (1, (0, x)), (2, (0, y)), (3, (0, n)), (6, (0, v3 349 x)), (7, (0, n7)), (8, (0, y8)), (9, (0, y9)), (10, (0, b10))], [(0, y9), (0, y8), (1, 353)], v6)) 2 rfl ?_
                                    refine e_Ok.ast rfl (el_o rfl) rfl rfl (by omega) ?_
                                    generalize hw158 : e_up v6 353 y8 y9 = w158
                                    have f159 : e_fr mSe w w158 := e_fr.up j139 hw158 (by unfold mSe mCl; omega)
                                    refine e_Ok.run (t' := (299, [(7, (0, b10)), (0, (1, 275)), (1, (0, x)), (2, (0, y)), (3, (0, n)), (6, (0, v3 349 x)), (8, (0, y8)), (9, (0, y9)), (10, (0, b10))], [], w158)) 2 rfl ?_
                                    refine e_Ok.inc (z := y8 + 1) rfl rfl (by omega) (by omega) ?_
                                    show e_Ok 20 elay ecode eI (d + 1) 417 (302, [(8, (0, y8 + 1)), (7, (0, b10)), (0, (1, 275)), (1, (0, x)), (2, (0, y)), (3, (0, n)), (6, (0, v3 349 x)), (9, (0, y9)), (10, (0, b10))], [], w158) _
                                    refine e_Ok.run (t' := (227, [(8, (0, y8 + 1)), (7, (0, b10)), (0, (1, 275)), (1, (0, x)), (2, (0, y)), (3, (0, n)), (6, (0, v3 349 x)), (9, (0, y9)), (10, (0, b10))], [], w158)) 1 rfl ?_
                                    refine e_Ok.sub eAlk (e_sub_of rfl ?_) (ih121 b10 (y8 + 1) w158 ⟨f159, (e_kn.oth j140 hw158 (by decide)), (e_kn.oth j141 hw158 (by decide)), (bfs.next j142 (fun c k g => by rw [← hw158]; exact e_up_ne _ _ (Or.inl (by omega))) (edK.same (fun e => by rw [← hw158]; exact e_up_ne _ _ (Or.inl (by decide))))), (wlk.add j143 (by omega) (by omega) hbl.2 hbl.1 hw158), by omega, (Eq.trans (show w158 349 b10 = v6 349 b10 from by rw [← hw158]; exact e_up_ne _ _ (Or.inl (by decide))) (by omega)), by omega⟩ (by omega))
                                    exact ⟨rfl, rfl, rfl, rfl, rfl, rfl, rfl, trivial⟩
                                  · replace h157 : (v6 349 b10 : Int) ≠ v6 349 n7 - 1 := by have q : ¬ ((v6 349 b10 : Int) = v6 349 n7 - 1) := h157; omega
                                    refine e_Ok.inc (z := y9 + 1) rfl rfl (by omega) (by omega) ?_
                                    show e_Ok 20 elay ecode eI (d + 1) 417 (273, [(9, (0, y9 + 1)), (0, (1, 275)), (1, (0, x)), (2, (0, y)), (3, (0, n)), (6, (0, v3 349 x)), (7, (0, n7)), (8, (0, y8)), (10, (0, b10))], [], v6) _
                                    have hnb : ¬ (0 ≤ b10 ∧ v6 349 b10 = v6 349 n7 - 1) := by omega
                                    have hl2 := nrr.lt2 j145 hnb
                                    refine e_Ok.run (t' := (278, [(9, (0, y9 + 1)), (0, (1, 275)), (1, (0, x)), (2, (0, y)), (3, (0, n)), (6, (0, v3 349 x)), (7, (0, n7)), (8, (0, y8)), (10, (0, b10))], [(0, y9 + 1), (0, n7), (1, 275)], v6)) 3 rfl ?_
                                    refine e_Ok.callV rfl (by omega) rfl rfl rfl rfl (c_416 (by omega) (mT_Se j139 hT) hF (plC.fr hP hA j139) hn (by omega) (by omega) j140 j141) (fun r160 w161 h162 => ?_)
                                    obtain ⟨z164, rfl, q163, q163f, q163g, q163d, q163c⟩ := h162
                                    have f165 : e_fr mSe w w161 := e_fr.trans j139 (e_fr.mono q163 (fun c k q => by exact fe_se q))
                                    have q163B := bfs.next j142 (fun c k g => q163 c k (by unfold mFe mCl; omega)) q163d
                                    obtain ⟨rfl, q163c⟩ | ⟨q163r, q163l, q163c⟩ := q163c
                                    · show e_Ok 20 elay ecode eI (d + 1) 417 (281, [(9, (0, y9 + 1)), (0, (1, 275)), (1, (0, x)), (2, (0, y)), (3, (0, n)), (6, (0, v3 349 x)), (7, (0, n7)), (8, (0, y8)), (10, (0, b10))], [(0, (-1))], w161) _
                                      refine e_Ok.run (t' := (246, [(10, (0, (-1))), (9, (0, y9 + 1)), (0, (1, 275)), (1, (0, x)), (2, (0, y)), (3, (0, n)), (6, (0, v3 349 x)), (7, (0, n7)), (8, (0, y8))], [], w161)) 2 rfl ?_
                                      refine e_Ok.sub eAlk (e_sub_of rfl ?_) (ih138 (y9 + 1) (-1) w161 ⟨f165, q163f, q163g, q163B, (wlk.next j143 (fun e => Eq.trans (q163 353 e (by unfold mFe mCl; omega)) ((fun e => rfl) e))), (Eq.trans ((fun e => Eq.trans (q163 349 e (by unfold mFe mCl; omega)) ((fun e => rfl) e)) n7) j144), (nrr.more j145 hnb (fun e => Eq.trans (q163 349 e (by unfold mFe mCl; omega)) ((fun e => rfl) e)) q163d (fun y h => absurd h (q163c y))), by omega, (Or.inl rfl)⟩ (by omega))
                                      exact ⟨rfl, rfl, rfl, rfl, rfl, rfl, rfl, rfl, rfl, trivial⟩
                                    · show e_Ok 20 elay ecode eI (d + 1) 417 (281, [(9, (0, y9 + 1)), (0, (1, 275)), (1, (0, x)), (2, (0, y)), (3, (0, n)), (6, (0, v3 349 x)), (7, (0, n7)), (8, (0, y8)), (10, (0, b10))], [(0, z164)], w161) _
                                      refine e_Ok.run (t' := (246, [(10, (0, z164)), (9, (0, y9 + 1)), (0, (1, 275)), (1, (0, x)), (2, (0, y)), (3, (0, n)), (6, (0, v3 349 x)), (7, (0, n7)), (8, (0, y8))], [], w161)) 2 rfl ?_
                                      refine e_Ok.sub eAlk (e_sub_of rfl ?_) (ih138 (y9 + 1) z164 w161 ⟨f165, q163f, q163g, q163B, (wlk.next j143 (fun e => Eq.trans (q163 353 e (by unfold mFe mCl; omega)) ((fun e => rfl) e))), (Eq.trans ((fun e => Eq.trans (q163 349 e (by unfold mFe mCl; omega)) ((fun e => rfl) e)) n7) j144), (nrr.more j145 hnb (fun e => Eq.trans (q163 349 e (by unfold mFe mCl; omega)) ((fun e => rfl) e)) q163d q163c), by omega, (Or.inr ⟨q163r, q163l.1⟩)⟩ (by omega))
                                      exact ⟨rfl, rfl, rfl, rfl, rfl, rfl, rfl, rfl, rfl, trivial⟩
                            refine e_Ok.sub eAlk (e_sub_of rfl ?_) (hL137 (13 + 1 : Int).toNat 0 (-1) w132 ⟨f136, q134f, q134g, q134B, (wlk.next j126 (fun e => Eq.trans (q134 353 e (by unfold mFe mCl; omega)) ((fun e => rfl) e))), (Eq.trans ((fun e => Eq.trans (q134 349 e (by unfold mFe mCl; omega)) ((fun e => rfl) e)) n7) j128), (nrr.of j125 (by omega) hfn (fun e => Eq.trans (q134 349 e (by unfold mFe mCl; omega)) ((fun e => rfl) e)) q134d (fun y h => absurd h (q134c y))), by omega, (Or.inl rfl)⟩ (by omega))
                            exact ⟨rfl, rfl, rfl, rfl, rfl, rfl, rfl, rfl, rfl, trivial⟩
                          · show e_Ok 20 elay ecode eI (d + 1) 417 (244, [(9, (0, 0)), (0, (1, 275)), (1, (0, x)), (2, (0, y)), (3, (0, n)), (6, (0, v3 349 x)), (7, (0, n7)), (8, (0, y8))], [(0, z135)], w132) _
                            refine e_Ok.run (t' := (246, [(10, (0, z135)), (9, (0, 0)), (0, (1, 275)), (1, (0, x)), (2, (0, y)), (3, (0, n)), (6, (0, v3 349 x)), (7, (0, n7)), (8, (0, y8))], [], w132)) 1 rfl ?_
                            have hL166 : ∀ (nn : Nat) (y9 : Int) (b10 : Int) (v6 : eW), e_fr mSe w v6 ∧ e_kn v6 351 0 (n - 1) ∧ e_kn v6 352 0 (6 * n - 1) ∧ bfs v6 f m n y5 ∧ wlk v6 f m n x y8 n7 ∧ v6 349 n7 = v3 349 x - y8 ∧ nrr v6 f m n n7 y9 b10 ∧ (0 ≤ y9 ∧ y9 ≤ 12) ∧ ((b10 = -1 ∨ ((0 ≤ b10 ∧ b10 < n) ∧ lnx f n7 b10 y9))) → 13 - y9 < nn → e_Ok 20 elay ecode eI (d + 1) 417 (246, [(0, (1, 275)), (1, (0, x)), (2, (0, y)), (3, (0, n)), (6, (0, v3 349 x)), (7, (0, n7)), (8, (0, y8)), (9, (0, y9)), (10, (0, b10))], [], v6) (fun r w' => ∃ z : Int, r = [(0, z)] ∧ e_fr mSe w w' ∧ (z = -1 ∨ ((0 ≤ z ∧ z ≤ 999) ∧ ∃ y', wlk w' f m n x z y'))) := by
                              intro nn
                              induction nn with
                              | zero => intro y9 b10 v6 hj hm; obtain ⟨j168, j169, j170, j171, j172, j173, j174, j175, j176⟩ := hj; exfalso; omega
                              | succ nn ih167 =>
                                intro y9 b10 v6 hj hm
                                obtain ⟨j168, j169, j170, j171, j172, j173, j174, j175, j176⟩ := hj
                                have hbs := nrr.lt j174
                                refine e_Ok.run (t' := (248, [(0, (1, 275)), (1, (0, x)), (2, (0, y)), (3, (0, n)), (6, (0, v3 349 x)), (7, (0, n7)), (8, (0, y8)), (9, (0, y9)), (10, (0, b10))], [(0, b10)], v6)) 1 rfl ?_
                                refine e_Ok.if1 rfl (fun h177 => ?_) (fun h177 => ?_)
                                · replace h177 : (b10 : Int) < 0 := h177
                                  refine e_Ok.inc (z := y9 + 1) rfl rfl (by omega) (by omega) ?_
                                  show e_Ok 20 elay ecode eI (d + 1) 417 (273, [(9, (0, y9 + 1)), (0, (1, 275)), (1, (0, x)), (2, (0, y)), (3, (0, n)), (6, (0, v3 349 x)), (7, (0, n7)), (8, (0, y8)), (10, (0, b10))], [], v6) _
                                  have hnb : ¬ (0 ≤ b10 ∧ v6 349 b10 = v6 349 n7 - 1) := by omega
                                  have hl2 := nrr.lt2 j174 hnb
                                  refine e_Ok.run (t' := (278, [(9, (0, y9 + 1)), (0, (1, 275)), (1, (0, x)), (2, (0, y)), (3, (0, n)), (6, (0, v3 349 x)), (7, (0, n7)), (8, (0, y8)), (10, (0, b10))], [(0, y9 + 1), (0, n7), (1, 275)], v6)) 3 rfl ?_
                                  refine e_Ok.callV rfl (by omega) rfl rfl rfl rfl (c_416 (by omega) (mT_Se j168 hT) hF (plC.fr hP hA j168) hn (by omega) (by omega) j169 j170) (fun r178 w179 h180 => ?_)
                                  obtain ⟨z182, rfl, q181, q181f, q181g, q181d, q181c⟩ := h180
                                  have f183 : e_fr mSe w w179 := e_fr.trans j168 (e_fr.mono q181 (fun c k q => by exact fe_se q))
                                  have q181B := bfs.next j171 (fun c k g => q181 c k (by unfold mFe mCl; omega)) q181d
                                  obtain ⟨rfl, q181c⟩ | ⟨q181r, q181l, q181c⟩ := q181c
                                  · show e_Ok 20 elay ecode eI (d + 1) 417 (281, [(9, (0, y9 + 1)), (0, (1, 275)), (1, (0, x)), (2, (0, y)), (3, (0, n)), (6, (0, v3 349 x)), (7, (0, n7)), (8, (0, y8)), (10, (0, b10))], [(0, (-1))], w179) _
                                    refine e_Ok.run (t' := (246, [(10, (0, (-1))), (9, (0, y9 + 1)), (0, (1, 275)), (1, (0, x)), (2, (0, y)), (3, (0, n)), (6, (0, v3 349 x)), (7, (0, n7)), (8, (0, y8))], [], w179)) 2 rfl ?_
                                    refine e_Ok.sub eAlk (e_sub_of rfl ?_) (ih167 (y9 + 1) (-1) w179 ⟨f183, q181f, q181g, q181B, (wlk.next j172 (fun e => Eq.trans (q181 353 e (by unfold mFe mCl; omega)) ((fun e => rfl) e))), (Eq.trans ((fun e => Eq.trans (q181 349 e (by unfold mFe mCl; omega)) ((fun e => rfl) e)) n7) j173), (nrr.more j174 hnb (fun e => Eq.trans (q181 349 e (by unfold mFe mCl; omega)) ((fun e => rfl) e)) q181d (fun y h => absurd h (q181c y))), by omega, (Or.inl rfl)⟩ (by omega))
                                    exact ⟨rfl, rfl, rfl, rfl, rfl, rfl, rfl, rfl, rfl, trivial⟩
                                  · show e_Ok 20 elay ecode eI (d + 1) 417 (281, [(9, (0, y9 + 1)), (0, (1, 275)), (1, (0, x)), (2, (0, y)), (3, (0, n)), (6, (0, v3 349 x)), (7, (0, n7)), (8, (0, y8)), (10, (0, b10))], [(0, z182)], w179) _
                                    refine e_Ok.run (t' := (246, [(10, (0, z182)), (9, (0, y9 + 1)), (0, (1, 275)), (1, (0, x)), (2, (0, y)), (3, (0, n)), (6, (0, v3 349 x)), (7, (0, n7)), (8, (0, y8))], [], w179)) 2 rfl ?_
                                    refine e_Ok.sub eAlk (e_sub_of rfl ?_) (ih167 (y9 + 1) z182 w179 ⟨f183, q181f, q181g, q181B, (wlk.next j172 (fun e => Eq.trans (q181 353 e (by unfold mFe mCl; omega)) ((fun e => rfl) e))), (Eq.trans ((fun e => Eq.trans (q181 349 e (by unfold mFe mCl; omega)) ((fun e => rfl) e)) n7) j173), (nrr.more j174 hnb (fun e => Eq.trans (q181 349 e (by unfold mFe mCl; omega)) ((fun e => rfl) e)) q181d q181c), by omega, (Or.inr ⟨q181r, q181l.1⟩)⟩ (by omega))
                                    exact ⟨rfl, rfl, rfl, rfl, rfl, rfl, rfl, rfl, rfl, trivial⟩
                                · replace h177 : (b10 : Int) ≥ 0 := by have q : ¬ ((b10 : Int) < 0) := h177; omega
                                  have hb0 : (0 ≤ b10 ∧ b10 < n) := by rcases j176 with g | g; exact absurd g (by omega); exact g.1
                                  refine e_Ok.run (t' := (252, [(0, (1, 275)), (1, (0, x)), (2, (0, y)), (3, (0, n)), (6, (0, v3 349 x)), (7, (0, n7)), (8, (0, y8)), (9, (0, y9)), (10, (0, b10))], [(1, 275)], v6)) 1 rfl ?_
                                  refine e_Ok.getr (z := 349) rfl (el_o rfl) rfl rfl ((j168 275 106 (by unfold mSe mCl; omega)).trans (e_Has.eq hT rfl)) (by omega) ?_
                                  refine e_Ok.run (t' := (257, [(0, (1, 275)), (1, (0, x)), (2, (0, y)), (3, (0, n)), (6, (0, v3 349 x)), (7, (0, n7)), (8, (0, y8)), (9, (0, y9)), (10, (0, b10))], [(0, b10), (1, 349)], v6)) 1 rfl ?_
                                  have h184 := (bfs.d j171 (x := b10) (by omega) (by omega))
                                  refine e_Ok.ald (z := v6 349 b10) rfl (el_o rfl) rfl (by omega) rfl (by omega) ?_
                                  refine e_Ok.run (t' := (259, [(0, (1, 275)), (1, (0, x)), (2, (0, y)), (3, (0, n)), (6, (0, v3 349 x)), (7, (0, n7)), (8, (0, y8)), (9, (0, y9)), (10, (0, b10))], [(1, 275), (0, v6 349 b10)], v6)) 1 rfl ?_
                                  refine e_Ok.getr (z := 349) rfl (el_o rfl) rfl rfl ((j168 275 106 (by unfold mSe mCl; omega)).trans (e_Has.eq hT rfl)) (by omega) ?_
                                  refine e_Ok.run (t' := (264, [(0, (1, 275)), (1, (0, x)), (2, (0, y)), (3, (0, n)), (6, (0, v3 349 x)), (7, (0, n7)), (8, (0, y8)), (9, (0, y9)), (10, (0, b10))], [(0, n7), (1, 349), (0, v6 349 b10)], v6)) 1 rfl ?_
                                  have h185 := (bfs.d j171 (x := n7) (by omega) (by omega))
                                  refine e_Ok.ald (z := v6 349 n7) rfl (el_o rfl) rfl (by omega) rfl (by omega) ?_
                                  refine e_Ok.run (t' := (266, [(0, (1, 275)), (1, (0, x)), (2, (0, y)), (3, (0, n)), (6, (0, v3 349 x)), (7, (0, n7)), (8, (0, y8)), (9, (0, y9)), (10, (0, b10))], [(0, 1), (0, v6 349 n7), (0, v6 349 b10)], v6)) 1 rfl ?_
                                  refine e_Ok.sub' (z := v6 349 n7 - 1) rfl (by omega) (by omega) ?_
                                  refine e_Ok.if2 rfl (fun h186 => ?_) (fun h186 => ?_)
                                  · replace h186 : (v6 349 b10 : Int) = v6 349 n7 - 1 := h186
                                    have hbl : (0 ≤ b10 ∧ b10 < n) ∧ lnx f n7 b10 y9 := by rcases j176 with g | g; exact absurd g (by omega); exact g
                                    have hnl := nrr.lt j174
                                    refine e_Ok.run (t' := (287, [(0, (1, 275)), (1, (0, x)), (2, (0, y)), (3, (0, n)), (6, (0, v3 349 x)), (7, (0, n7)), (8, (0, y8)), (9, (0, y9)), (10, (0, b10))], [(1, 275)], v6)) 1 rfl ?_
                                    refine e_Ok.getr (z := 353) rfl (el_o rfl) rfl rfl ((j168 275 113 (by unfold mSe mCl; omega)).trans (e_Has.eq hT rfl)) (by omega) ?_
                                    refine e_Ok.run (t' := (294, [(0, (1, 275)), (1, (0, x)), (2, (0, y)), (3, (0, n)), (6, (0, v3 349 x)), (7, (0, n7)), (8, (0, y8)), (9, (0, y9)), (10, (0, b10))], [(0, y9), (0, y8), (1, 353)], v6)) 2 rfl ?_
                                    refine e_Ok.ast rfl (el_o rfl) rfl rfl (by omega) ?_
                                    generalize hw187 : e_up v6 353 y8 y9 = w187
                                    have f188 : e_fr mSe w w187 := e_fr.up j168 hw187 (by unfold mSe mCl; omega)
                                    refine e_Ok.run (t' := (299, [(7, (0, b10)), (0, (1, 275)), (1, (0, x)), (2, (0, y)), (3, (0, n)), (6, (0, v3 349 x)), (8, (0, y8)), (9, (0, y9)), (10, (0, b10))], [], w187)) 2 rfl ?_
                                    refine e_Ok.inc (z := y8 + 1) rfl rfl (by omega) (by omega) ?_
                                    show e_Ok 20 elay ecode eI (d + 1) 417 (302, [(8, (0, y8 + 1)), (7, (0, b10)), (0, (1, 275)), (1, (0, x)), (2, (0, y)), (3, (0, n)), (6, (0, v3 349 x)), (9, (0, y9)), (10, (0, b10))], [], w187) _
                                    refine e_Ok.run (t' := (227, [(8, (0, y8 + 1)), (7, (0, b10)), (0, (1, 275)), (1, (0, x)), (2, (0, y)), (3, (0, n)), (6, (0, v3 349 x)), (9, (0, y9)), (10, (0, b10))], [], w187)) 1 rfl ?_
                                    refine e_Ok.sub eAlk (e_sub_of rfl ?_) (ih121 b10 (y8 + 1) w187 ⟨f188, (e_kn.oth j169 hw187 (by decide)), (e_kn.oth j170 hw187 (by decide)), (bfs.next j171 (fun c k g => by rw [← hw187]; exact e_up_ne _ _ (Or.inl (by omega))) (edK.same (fun e => by rw [← hw187]; exact e_up_ne _ _ (Or.inl (by decide))))), (wlk.add j172 (by omega) (by omega) hbl.2 hbl.1 hw187), by omega, (Eq.trans (show w187 349 b10 = v6 349 b10 from by rw [← hw187]; exact e_up_ne _ _ (Or.inl (by decide))) (by omega)), by omega⟩ (by omega))
                                    exact ⟨rfl, rfl, rfl, rfl, rfl, rfl, rfl, trivial⟩
                                  · replace h186 : (v6 349 b10 : Int) ≠ v6 349 n7 - 1 := by have q : ¬ ((v6 349 b10 : Int) = v6 349 n7 - 1) := h186; omega
                                    refine e_Ok.inc (z := y9 + 1) rfl rfl (by omega) (by omega) ?_
                                    show e_Ok 20 elay ecode eI (d + 1) 417 (273, [(9, (0, y9 + 1)), (0, (1, 275)), (1, (0, x)), (2, (0, y)), (3, (0, n)), (6, (0, v3 349 x)), (7, (0, n7)), (8, (0, y8)), (10, (0, b10))], [], v6) _
                                    have hnb : ¬ (0 ≤ b10 ∧ v6 349 b10 = v6 349 n7 - 1) := by omega
                                    have hl2 := nrr.lt2 j174 hnb
                                    refine e_Ok.run (t' := (278, [(9, (0, y9 + 1)), (0, (1, 275)), (1, (0, x)), (2, (0, y)), (3, (0, n)), (6, (0, v3 349 x)), (7, (0, n7)), (8, (0, y8)), (10, (0, b10))], [(0, y9 + 1), (0, n7), (1, 275)], v6)) 3 rfl ?_
                                    refine e_Ok.callV rfl (by omega) rfl rfl rfl rfl (c_416 (by omega) (mT_Se j168 hT) hF (plC.fr hP hA j168) hn (by omega) (by omega) j169 j170) (fun r189 w190 h191 => ?_)
                                    obtain ⟨z193, rfl, q192, q192f, q192g, q192d, q192c⟩ := h191
                                    have f194 : e_fr mSe w w190 := e_fr.trans j168 (e_fr.mono q192 (fun c k q => by exact fe_se q))
                                    have q192B := bfs.next j171 (fun c k g => q192 c k (by unfold mFe mCl; omega)) q192d
                                    obtain ⟨rfl, q192c⟩ | ⟨q192r, q192l, q192c⟩ := q192c
                                    · show e_Ok 20 elay ecode eI (d + 1) 417 (281, [(9, (0, y9 + 1)), (0, (1, 275)), (1, (0, x)), (2, (0, y)), (3, (0, n)), (6, (0, v3 349 x)), (7, (0, n7)), (8, (0, y8)), (10, (0, b10))], [(0, (-1))], w190) _
                                      refine e_Ok.run (t' := (246, [(10, (0, (-1))), (9, (0, y9 + 1)), (0, (1, 275)), (1, (0, x)), (2, (0, y)), (3, (0, n)), (6, (0, v3 349 x)), (7, (0, n7)), (8, (0, y8))], [], w190)) 2 rfl ?_
                                      refine e_Ok.sub eAlk (e_sub_of rfl ?_) (ih167 (y9 + 1) (-1) w190 ⟨f194, q192f, q192g, q192B, (wlk.next j172 (fun e => Eq.trans (q192 353 e (by unfold mFe mCl; omega)) ((fun e => rfl) e))), (Eq.trans ((fun e => Eq.trans (q192 349 e (by unfold mFe mCl; omega)) ((fun e => rfl) e)) n7) j173), (nrr.more j174 hnb (fun e => Eq.trans (q192 349 e (by unfold mFe mCl; omega)) ((fun e => rfl) e)) q192d (fun y h => absurd h (q192c y))), by omega, (Or.inl rfl)⟩ (by omega))
                                      exact ⟨rfl, rfl, rfl, rfl, rfl, rfl, rfl, rfl, rfl, trivial⟩
                                    · show e_Ok 20 elay ecode eI (d + 1) 417 (281, [(9, (0, y9 + 1)), (0, (1, 275)), (1, (0, x)), (2, (0, y)), (3, (0, n)), (6, (0, v3 349 x)), (7, (0, n7)), (8, (0, y8)), (10, (0, b10))], [(0, z193)], w190) _
                                      refine e_Ok.run (t' := (246, [(10, (0, z193)), (9, (0, y9 + 1)), (0, (1, 275)), (1, (0, x)), (2, (0, y)), (3, (0, n)), (6, (0, v3 349 x)), (7, (0, n7)), (8, (0, y8))], [], w190)) 2 rfl ?_
                                      refine e_Ok.sub eAlk (e_sub_of rfl ?_) (ih167 (y9 + 1) z193 w190 ⟨f194, q192f, q192g, q192B, (wlk.next j172 (fun e => Eq.trans (q192 353 e (by unfold mFe mCl; omega)) ((fun e => rfl) e))), (Eq.trans ((fun e => Eq.trans (q192 349 e (by unfold mFe mCl; omega)) ((fun e => rfl) e)) n7) j173), (nrr.more j174 hnb (fun e => Eq.trans (q192 349 e (by unfold mFe mCl; omega)) ((fun e => rfl) e)) q192d q192c), by omega, (Or.inr ⟨q192r, q192l.1⟩)⟩ (by omega))
                                      exact ⟨rfl, rfl, rfl, rfl, rfl, rfl, rfl, rfl, rfl, trivial⟩
                            refine e_Ok.sub eAlk (e_sub_of rfl ?_) (hL166 (13 + 1 : Int).toNat 0 z135 w132 ⟨f136, q134f, q134g, q134B, (wlk.next j126 (fun e => Eq.trans (q134 353 e (by unfold mFe mCl; omega)) ((fun e => rfl) e))), (Eq.trans ((fun e => Eq.trans (q134 349 e (by unfold mFe mCl; omega)) ((fun e => rfl) e)) n7) j128), (nrr.of j125 (by omega) hfn (fun e => Eq.trans (q134 349 e (by unfold mFe mCl; omega)) ((fun e => rfl) e)) q134d q134c), by omega, (Or.inr ⟨q134r, q134l.1⟩)⟩ (by omega))
                            exact ⟨rfl, rfl, rfl, rfl, rfl, rfl, rfl, rfl, rfl, trivial⟩
                    refine e_Ok.sub eAlk (e_sub_of rfl ?_) (hL120 (1001 + 1 : Int).toNat x 0 v3 ⟨j29, j30, j31, j32, (wlk.zero _ _ _ _ _), by omega, by omega, by omega⟩ (by omega))
                    exact ⟨rfl, rfl, rfl, rfl, rfl, rfl, rfl, trivial⟩
                  · replace h119 : (v3 349 x : Int) < 0 := by have q : ¬ ((v3 349 x : Int) ≥ 0) := h119; omega
                    refine e_Ok.run (t' := (131, [(7, (0, 0)), (0, (1, 275)), (1, (0, x)), (2, (0, y)), (3, (0, n)), (4, (0, 2 * m)), (5, (0, y5)), (6, (0, y6))], [], v3)) 2 rfl ?_
                    have hL195 : ∀ (nn : Nat) (u5 : Int) (y7 : Int) (v4 : eW), e_fr mSe w v4 ∧ e_kn v4 351 0 (n - 1) ∧ e_kn v4 352 0 (6 * n - 1) ∧ bfs v4 f m n u5 ∧ (0 ≤ y6 ∧ y6 < u5 ∧ u5 ≤ 1000) ∧ (0 ≤ y7 ∧ y7 ≤ 2 * m) → 13 - y7 < nn → e_Ok 20 elay ecode eI (d + 1) 417 (131, [(0, (1, 275)), (1, (0, x)), (2, (0, y)), (3, (0, n)), (4, (0, 2 * m)), (5, (0, u5)), (6, (0, y6)), (7, (0, y7))], [], v4) (fun r w' => ∃ z : Int, r = [(0, z)] ∧ e_fr mSe w w' ∧ (z = -1 ∨ ((0 ≤ z ∧ z ≤ 999) ∧ ∃ y', wlk w' f m n x z y'))) := by
                      intro nn
                      induction nn with
                      | zero => intro u5 y7 v4 hj hm; obtain ⟨j197, j198, j199, j200, j201, j202⟩ := hj; exfalso; omega
                      | succ nn ih196 =>
                        intro u5 y7 v4 hj hm
                        obtain ⟨j197, j198, j199, j200, j201, j202⟩ := hj
                        have hb4 := j200.1
                        refine e_Ok.run (t' := (135, [(0, (1, 275)), (1, (0, x)), (2, (0, y)), (3, (0, n)), (4, (0, 2 * m)), (5, (0, u5)), (6, (0, y6)), (7, (0, y7))], [(0, 2 * m), (0, y7)], v4)) 2 rfl ?_
                        refine e_Ok.if2 rfl (fun h203 => ?_) (fun h203 => ?_)
                        · replace h203 : (y7 : Int) ≥ 2 * m := h203
                          refine e_Ok.inc (z := y6 + 1) rfl rfl (by omega) (by omega) ?_
                          show e_Ok 20 elay ecode eI (d + 1) 417 (210, [(6, (0, y6 + 1)), (0, (1, 275)), (1, (0, x)), (2, (0, y)), (3, (0, n)), (4, (0, 2 * m)), (5, (0, u5)), (7, (0, y7))], [], v4) _
                          refine e_Ok.run (t' := (112, [(6, (0, y6 + 1)), (0, (1, 275)), (1, (0, x)), (2, (0, y)), (3, (0, n)), (4, (0, 2 * m)), (5, (0, u5)), (7, (0, y7))], [], v4)) 1 rfl ?_
                          refine e_Ok.sub eAlk (e_sub_of rfl ?_) (ih28 u5 (y6 + 1) v4 ⟨j197, j198, j199, j200, by omega⟩ (by omega))
                          exact ⟨rfl, rfl, rfl, rfl, rfl, rfl, rfl, trivial⟩
                        · replace h203 : (y7 : Int) < 2 * m := by have q : ¬ ((y7 : Int) ≥ 2 * m) := h203; omega
                          have hq6 := j200.2.1 y6 (by omega) (by omega)
                          refine e_Ok.run (t' := (140, [(0, (1, 275)), (1, (0, x)), (2, (0, y)), (3, (0, n)), (4, (0, 2 * m)), (5, (0, u5)), (6, (0, y6)), (7, (0, y7))], [(1, 275), (1, 275)], v4)) 2 rfl ?_
                          refine e_Ok.getr (z := 350) rfl (el_o rfl) rfl rfl ((j197 275 107 (by unfold mSe mCl; omega)).trans (e_Has.eq hT rfl)) (by omega) ?_
                          refine e_Ok.run (t' := (145, [(0, (1, 275)), (1, (0, x)), (2, (0, y)), (3, (0, n)), (4, (0, 2 * m)), (5, (0, u5)), (6, (0, y6)), (7, (0, y7))], [(0, y6), (1, 350), (1, 275)], v4)) 1 rfl ?_
                          refine e_Ok.ald (z := v4 350 y6) rfl (el_o rfl) rfl (by omega) rfl (by omega) ?_
                          refine e_Ok.run (t' := (148, [(0, (1, 275)), (1, (0, x)), (2, (0, y)), (3, (0, n)), (4, (0, 2 * m)), (5, (0, u5)), (6, (0, y6)), (7, (0, y7))], [(0, y7), (0, v4 350 y6), (1, 275)], v4)) 1 rfl ?_
                          refine e_Ok.callV rfl (by omega) rfl rfl rfl rfl (c_416 (by omega) (mT_Se j197 hT) hF (plC.fr hP hA j197) hn hq6.1 (by omega) j198 j199) (fun r204 w205 h206 => ?_)
                          obtain ⟨z208, rfl, q207, q207f, q207g, q207d, q207c⟩ := h206
                          have f209 : e_fr mSe w w205 := e_fr.trans j197 (e_fr.mono q207 (fun c k q => by exact fe_se q))
                          have q207B := bfs.next j200 (fun c k g => q207 c k (by unfold mFe mCl; omega)) q207d
                          obtain ⟨rfl, q207c⟩ | ⟨q207r, q207l, q207c⟩ := q207c
                          · show e_Ok 20 elay ecode eI (d + 1) 417 (151, [(0, (1, 275)), (1, (0, x)), (2, (0, y)), (3, (0, n)), (4, (0, 2 * m)), (5, (0, u5)), (6, (0, y6)), (7, (0, y7))], [(0, (-1))], w205) _
                            refine e_Ok.run (t' := (155, [(8, (0, (-1))), (0, (1, 275)), (1, (0, x)), (2, (0, y)), (3, (0, n)), (4, (0, 2 * m)), (5, (0, u5)), (6, (0, y6)), (7, (0, y7))], [(0, (-1))], w205)) 2 rfl ?_
                            refine e_Ok.if1 rfl (fun h210 => ?_) (fun h210 => ?_)
                            · replace h210 : ((-1) : Int) < 0 := h210
                              refine e_Ok.inc (z := y7 + 1) rfl rfl (by omega) (by omega) ?_
                              show e_Ok 20 elay ecode eI (d + 1) 417 (204, [(7, (0, y7 + 1)), (8, (0, (-1))), (0, (1, 275)), (1, (0, x)), (2, (0, y)), (3, (0, n)), (4, (0, 2 * m)), (5, (0, u5)), (6, (0, y6))], [], w205) _
                              refine e_Ok.run (t' := (131, [(7, (0, y7 + 1)), (8, (0, (-1))), (0, (1, 275)), (1, (0, x)), (2, (0, y)), (3, (0, n)), (4, (0, 2 * m)), (5, (0, u5)), (6, (0, y6))], [], w205)) 1 rfl ?_
                              refine e_Ok.sub eAlk (e_sub_of rfl ?_) (ih196 u5 (y7 + 1) w205 ⟨f209, q207f, q207g, q207B, by omega, by omega⟩ (by omega))
                              exact ⟨rfl, rfl, rfl, rfl, rfl, rfl, rfl, rfl, trivial⟩
                            · replace h210 : ((-1) : Int) ≥ 0 := by have q : ¬ (((-1) : Int) < 0) := h210; omega
                              exfalso; omega
                          · show e_Ok 20 elay ecode eI (d + 1) 417 (151, [(0, (1, 275)), (1, (0, x)), (2, (0, y)), (3, (0, n)), (4, (0, 2 * m)), (5, (0, u5)), (6, (0, y6)), (7, (0, y7))], [(0, z208)], w205) _
                            refine e_Ok.run (t' := (155, [(8, (0, z208)), (0, (1, 275)), (1, (0, x)), (2, (0, y)), (3, (0, n)), (4, (0, 2 * m)), (5, (0, u5)), (6, (0, y6)), (7, (0, y7))], [(0, z208)], w205)) 2 rfl ?_
                            refine e_Ok.if1 rfl (fun h211 => ?_) (fun h211 => ?_)
                            · replace h211 : (z208 : Int) < 0 := h211
                              exfalso; omega
                            · replace h211 : (z208 : Int) ≥ 0 := by have q : ¬ ((z208 : Int) < 0) := h211; omega
                              refine e_Ok.run (t' := (159, [(8, (0, z208)), (0, (1, 275)), (1, (0, x)), (2, (0, y)), (3, (0, n)), (4, (0, 2 * m)), (5, (0, u5)), (6, (0, y6)), (7, (0, y7))], [(1, 275)], w205)) 1 rfl ?_
                              refine e_Ok.getr (z := 349) rfl (el_o rfl) rfl rfl ((q207 275 106 (by unfold mFe mCl; omega)).trans ((j197 275 106 (by unfold mSe mCl; omega)).trans (e_Has.eq hT rfl))) (by omega) ?_
                              refine e_Ok.run (t' := (164, [(8, (0, z208)), (0, (1, 275)), (1, (0, x)), (2, (0, y)), (3, (0, n)), (4, (0, 2 * m)), (5, (0, u5)), (6, (0, y6)), (7, (0, y7))], [(0, z208), (1, 349)], w205)) 1 rfl ?_
                              have h212 := (bfs.d j200 (x := z208) (by omega) (by omega))
                              refine e_Ok.ald (z := v4 349 z208) rfl (el_o rfl) rfl (by omega) ((q207 349 z208 (by unfold mFe mCl; omega)).trans rfl) (by omega) ?_
                              refine e_Ok.if1 rfl (fun h213 => ?_) (fun h213 => ?_)
                              · replace h213 : (v4 349 z208 : Int) ≥ 0 := h213
                                refine e_Ok.inc (z := y7 + 1) rfl rfl (by omega) (by omega) ?_
                                show e_Ok 20 elay ecode eI (d + 1) 417 (204, [(7, (0, y7 + 1)), (8, (0, z208)), (0, (1, 275)), (1, (0, x)), (2, (0, y)), (3, (0, n)), (4, (0, 2 * m)), (5, (0, u5)), (6, (0, y6))], [], w205) _
                                refine e_Ok.run (t' := (131, [(7, (0, y7 + 1)), (8, (0, z208)), (0, (1, 275)), (1, (0, x)), (2, (0, y)), (3, (0, n)), (4, (0, 2 * m)), (5, (0, u5)), (6, (0, y6))], [], w205)) 1 rfl ?_
                                refine e_Ok.sub eAlk (e_sub_of rfl ?_) (ih196 u5 (y7 + 1) w205 ⟨f209, q207f, q207g, q207B, by omega, by omega⟩ (by omega))
                                exact ⟨rfl, rfl, rfl, rfl, rfl, rfl, rfl, rfl, trivial⟩
                              · replace h213 : (v4 349 z208 : Int) < 0 := by have q : ¬ ((v4 349 z208 : Int) ≥ 0) := h213; omega
                                have hqb : w205 349 z208 = v4 349 z208 := q207 349 z208 (by unfold mFe mCl; omega)
                                have hrm := bfs.room q207B (by omega) (by omega)
                                have hq0 : w205 350 y6 = v4 350 y6 := q207 350 y6 (by unfold mFe mCl; omega)
                                have hq9 : w205 349 (v4 350 y6) = v4 349 (v4 350 y6) := q207 349 _ (by unfold mFe mCl; omega)
                                have hq7 := bfs.d j200 (x := v4 350 y6) (by omega) (by omega)
                                refine e_Ok.run (t' := (169, [(8, (0, z208)), (0, (1, 275)), (1, (0, x)), (2, (0, y)), (3, (0, n)), (4, (0, 2 * m)), (5, (0, u5)), (6, (0, y6)), (7, (0, y7))], [(1, 275)], w205)) 1 rfl ?_
                                refine e_Ok.getr (z := 349) rfl (el_o rfl) rfl rfl ((q207 275 106 (by unfold mFe mCl; omega)).trans ((j197 275 106 (by unfold mSe mCl; omega)).trans (e_Has.eq hT rfl))) (by omega) ?_
                                refine e_Ok.run (t' := (175, [(8, (0, z208)), (0, (1, 275)), (1, (0, x)), (2, (0, y)), (3, (0, n)), (4, (0, 2 * m)), (5, (0, u5)), (6, (0, y6)), (7, (0, y7))], [(1, 275), (0, z208), (1, 349)], w205)) 2 rfl ?_
                                refine e_Ok.getr (z := 349) rfl (el_o rfl) rfl rfl ((q207 275 106 (by unfold mFe mCl; omega)).trans ((j197 275 106 (by unfold mSe mCl; omega)).trans (e_Has.eq hT rfl))) (by omega) ?_
                                refine e_Ok.run (t' := (179, [(8, (0, z208)), (0, (1, 275)), (1, (0, x)), (2, (0, y)), (3, (0, n)), (4, (0, 2 * m)), (5, (0, u5)), (6, (0, y6)), (7, (0, y7))], [(1, 275), (1, 349), (0, z208), (1, 349)], w205)) 1 rfl ?_
                                refine e_Ok.getr (z := 350) rfl (el_o rfl) rfl rfl ((q207 275 107 (by unfold mFe mCl; omega)).trans ((j197 275 107 (by unfold mSe mCl; omega)).trans (e_Has.eq hT rfl))) (by omega) ?_
                                refine e_Ok.run (t' := (184, [(8, (0, z208)), (0, (1, 275)), (1, (0, x)), (2, (0, y)), (3, (0, n)), (4, (0, 2 * m)), (5, (0, u5)), (6, (0, y6)), (7, (0, y7))], [(0, y6), (1, 350), (1, 349), (0, z208), (1, 349)], w205)) 1 rfl ?_
                                refine e_Ok.ald (z := v4 350 y6) rfl (el_o rfl) rfl (by omega) ((q207 350 y6 (by unfold mFe mCl; omega)).trans rfl) (by omega) ?_
                                refine e_Ok.ald (z := v4 349 (v4 350 y6)) rfl (el_o rfl) rfl (by omega) ((q207 349 (v4 350 y6) (by unfold mFe mCl; omega)).trans rfl) (by omega) ?_
                                refine e_Ok.run (t' := (187, [(8, (0, z208)), (0, (1, 275)), (1, (0, x)), (2, (0, y)), (3, (0, n)), (4, (0, 2 * m)), (5, (0, u5)), (6, (0, y6)), (7, (0, y7))], [(0, 1), (0, v4 349 (v4 350 y6)), (0, z208), (1, 349)], w205)) 1 rfl ?_
                                refine e_Ok.add (z := v4 349 (v4 350 y6) + 1) rfl (by omega) (by omega) ?_
                                refine e_Ok.ast rfl (el_o rfl) rfl rfl (by omega) ?_
                                generalize hw214 : e_up w205 349 z208 (v4 349 (v4 350 y6) + 1) = w214
                                have f215 : e_fr mSe w w214 := e_fr.up f209 hw214 (by unfold mSe mCl; omega)
                                refine e_Ok.run (t' := (190, [(8, (0, z208)), (0, (1, 275)), (1, (0, x)), (2, (0, y)), (3, (0, n)), (4, (0, 2 * m)), (5, (0, u5)), (6, (0, y6)), (7, (0, y7))], [(1, 275)], w214)) 1 rfl ?_
                                refine e_Ok.getr (z := 350) rfl (el_o rfl) rfl rfl (by rw [← hw214]; exact (e_up_ne _ _ (Or.inl (by omega))).trans ((q207 275 107 (by unfold mFe mCl; omega)).trans ((j197 275 107 (by unfold mSe mCl; omega)).trans (e_Has.eq hT rfl)))) (by omega) ?_
                                refine e_Ok.run (t' := (197, [(8, (0, z208)), (0, (1, 275)), (1, (0, x)), (2, (0, y)), (3, (0, n)), (4, (0, 2 * m)), (5, (0, u5)), (6, (0, y6)), (7, (0, y7))], [(0, z208), (0, u5), (1, 350)], w214)) 2 rfl ?_
                                refine e_Ok.ast rfl (el_o rfl) rfl rfl (by omega) ?_
                                generalize hw216 : e_up w214 350 u5 z208 = w216
                                have f217 : e_fr mSe w w216 := e_fr.up f215 hw216 (by unfold mSe mCl; omega)
                                refine e_Ok.inc (z := u5 + 1) rfl rfl (by omega) (by omega) ?_
                                show e_Ok 20 elay ecode eI (d + 1) 417 (201, [(5, (0, u5 + 1)), (8, (0, z208)), (0, (1, 275)), (1, (0, x)), (2, (0, y)), (3, (0, n)), (4, (0, 2 * m)), (6, (0, y6)), (7, (0, y7))], [], w216) _
                                refine e_Ok.inc (z := y7 + 1) rfl rfl (by omega) (by omega) ?_
                                show e_Ok 20 elay ecode eI (d + 1) 417 (204, [(7, (0, y7 + 1)), (5, (0, u5 + 1)), (8, (0, z208)), (0, (1, 275)), (1, (0, x)), (2, (0, y)), (3, (0, n)), (4, (0, 2 * m)), (6, (0, y6))], [], w216) _
                                refine e_Ok.run (t' := (131, [(7, (0, y7 + 1)), (5, (0, u5 + 1)), (8, (0, z208)), (0, (1, 275)), (1, (0, x)), (2, (0, y)), (3, (0, n)), (4, (0, 2 * m)), (6, (0, y6))], [], w216)) 1 rfl ?_
                                refine e_Ok.sub eAlk (e_sub_of rfl ?_) (ih196 (u5 + 1) (y7 + 1) w216 ⟨f217, (e_kn.oth (e_kn.oth q207f hw214 (by decide)) hw216 (by decide)), (e_kn.oth (e_kn.oth q207g hw214 (by decide)) hw216 (by decide)), (bfs.add (w := w205) (s := y7) (k := y6) q207B (by omega) (fun k g1 g2 => (hF.2.2.1 k g1 g2).1) (by omega) q207r (by omega) (by omega) (by rw [hq0]; exact q207l) (by rw [hq0, hq9]; exact hw214) hw216), by omega, by omega⟩ (by omega))
                                exact ⟨rfl, rfl, rfl, rfl, rfl, rfl, rfl, rfl, trivial⟩
                    refine e_Ok.sub eAlk (e_sub_of rfl ?_) (hL195 (13 + 1 : Int).toNat y5 0 v3 ⟨j29, j30, j31, j32, by omega, by omega⟩ (by omega))
                    exact ⟨rfl, rfl, rfl, rfl, rfl, rfl, rfl, rfl, trivial⟩
            refine e_Ok.sub eAlk (e_sub_of rfl ?_) (hL27 (1001 + 1 : Int).toNat 1 0 w25 ⟨f26, (e_kn.oth (e_kn.oth q19k hw23 (by decide)) hw25 (by decide)), (e_kn.oth (e_kn.oth (e_kn.fr q19 (fun k q => by unfold mFn mCl at q; omega) (e_kn.fr q12 (fun k q => by unfold mFn mCl at q; omega) hk2)) hw23 (by decide)) hw25 (by decide)), hbf, by omega⟩ (by omega))
            exact ⟨rfl, rfl, rfl, rfl, rfl, rfl, rfl, trivial⟩
          · replace h22 : (z20 : Int) = 0 := by have q : ¬ ((z20 : Int) ≠ 0) := h22; omega
            refine e_Ok.run (t' := (78, [(0, (1, 275)), (1, (0, x)), (2, (0, y)), (3, (0, n)), (4, (0, y4))], [(0, (-1))], w17)) 1 rfl ?_
            refine e_Ok.rets rfl rfl ?_
            exact ⟨_, rfl, f21, Or.inl rfl⟩
      · replace h8 : (y4 : Int) < n := by have q : ¬ ((y4 : Int) ≥ n) := h8; omega
        refine e_Ok.run (t' := (10, [(0, (1, 275)), (1, (0, x)), (2, (0, y)), (3, (0, n)), (4, (0, y4))], [(1, 275)], v1)) 1 rfl ?_
        refine e_Ok.getr (z := 349) rfl (el_o rfl) rfl rfl ((j3 275 106 (by unfold mSe mCl; omega)).trans (e_Has.eq hT rfl)) (by omega) ?_
        refine e_Ok.run (t' := (16, [(0, (1, 275)), (1, (0, x)), (2, (0, y)), (3, (0, n)), (4, (0, y4))], [(0, (-1)), (0, y4), (1, 349)], v1)) 2 rfl ?_
        refine e_Ok.ast rfl (el_o rfl) rfl rfl (by omega) ?_
        generalize hw218 : e_up v1 349 y4 (-1) = w218
        have f219 : e_fr mSe w w218 := e_fr.up j3 hw218 (by unfold mSe mCl; omega)
        refine e_Ok.run (t' := (18, [(0, (1, 275)), (1, (0, x)), (2, (0, y)), (3, (0, n)), (4, (0, y4))], [(1, 275)], w218)) 1 rfl ?_
        refine e_Ok.getr (z := 351) rfl (el_o rfl) rfl rfl (by rw [← hw218]; exact (e_up_ne _ _ (Or.inl (by omega))).trans ((j3 275 108 (by unfold mSe mCl; omega)).trans (e_Has.eq hT rfl))) (by omega) ?_
        refine e_Ok.run (t' := (24, [(0, (1, 275)), (1, (0, x)), (2, (0, y)), (3, (0, n)), (4, (0, y4))], [(0, 0), (0, y4), (1, 351)], w218)) 2 rfl ?_
        refine e_Ok.ast rfl (el_o rfl) rfl rfl (by omega) ?_
        generalize hw220 : e_up w218 351 y4 0 = w220
        have f221 : e_fr mSe w w220 := e_fr.up f219 hw220 (by unfold mSe mCl; omega)
        refine e_Ok.run (t' := (28, [(5, (0, 0)), (0, (1, 275)), (1, (0, x)), (2, (0, y)), (3, (0, n)), (4, (0, y4))], [], w220)) 2 rfl ?_
        have hL222 : ∀ (nn : Nat) (y5 : Int) (v2 : eW), e_fr mSe w v2 ∧ (0 ≤ y5 ∧ y5 ≤ 6) ∧ (∀ i, 0 ≤ i → i < y4 + 1 → v2 349 i = -1) ∧ e_kn v2 351 0 y4 ∧ e_kn v2 352 0 (6 * y4 + y5 - 1) → 7 - y5 < nn → e_Ok 20 elay ecode eI (d + 1) 417 (28, [(0, (1, 275)), (1, (0, x)), (2, (0, y)), (3, (0, n)), (4, (0, y4)), (5, (0, y5))], [], v2) (fun r w' => ∃ z : Int, r = [(0, z)] ∧ e_fr mSe w w' ∧ (z = -1 ∨ ((0 ≤ z ∧ z ≤ 999) ∧ ∃ y', wlk w' f m n x z y'))) := by
          intro nn
          induction nn with
          | zero => intro y5 v2 hj hm; obtain ⟨j224, j225, j226, j227, j228⟩ := hj; exfalso; omega
          | succ nn ih223 =>
            intro y5 v2 hj hm
            obtain ⟨j224, j225, j226, j227, j228⟩ := hj
            refine e_Ok.run (t' := (32, [(0, (1, 275)), (1, (0, x)), (2, (0, y)), (3, (0, n)), (4, (0, y4)), (5, (0, y5))], [(0, 6), (0, y5)], v2)) 2 rfl ?_
            refine e_Ok.if2 rfl (fun h229 => ?_) (fun h229 => ?_)
            · replace h229 : (y5 : Int) ≥ 6 := h229
              refine e_Ok.inc (z := y4 + 1) rfl rfl (by omega) (by omega) ?_
              show e_Ok 20 elay ecode eI (d + 1) 417 (58, [(4, (0, y4 + 1)), (0, (1, 275)), (1, (0, x)), (2, (0, y)), (3, (0, n)), (5, (0, y5))], [], v2) _
              refine e_Ok.run (t' := (3, [(4, (0, y4 + 1)), (0, (1, 275)), (1, (0, x)), (2, (0, y)), (3, (0, n)), (5, (0, y5))], [], v2)) 1 rfl ?_
              refine e_Ok.sub eAlk (e_sub_of rfl ?_) (ih2 (y4 + 1) v2 ⟨j224, by omega, (fun i g1 g2 => j226 i g1 (by omega)), (fun i g1 g2 => j227 i g1 (by omega)), (fun i g1 g2 => j228 i g1 (by omega))⟩ (by omega))
              exact ⟨rfl, rfl, rfl, rfl, rfl, trivial⟩
            · replace h229 : (y5 : Int) < 6 := by have q : ¬ ((y5 : Int) ≥ 6) := h229; omega
              refine e_Ok.run (t' := (36, [(0, (1, 275)), (1, (0, x)), (2, (0, y)), (3, (0, n)), (4, (0, y4)), (5, (0, y5))], [(1, 275)], v2)) 1 rfl ?_
              refine e_Ok.getr (z := 352) rfl (el_o rfl) rfl rfl ((j224 275 109 (by unfold mSe mCl; omega)).trans (e_Has.eq hT rfl)) (by omega) ?_
              refine e_Ok.run (t' := (43, [(0, (1, 275)), (1, (0, x)), (2, (0, y)), (3, (0, n)), (4, (0, y4)), (5, (0, y5))], [(0, y4), (0, 6), (1, 352)], v2)) 2 rfl ?_
              refine e_Ok.mul (z := 6 * y4) rfl (by omega) (by omega) ?_
              refine e_Ok.run (t' := (46, [(0, (1, 275)), (1, (0, x)), (2, (0, y)), (3, (0, n)), (4, (0, y4)), (5, (0, y5))], [(0, y5), (0, 6 * y4), (1, 352)], v2)) 1 rfl ?_
              refine e_Ok.add (z := 6 * y4 + y5) rfl (by omega) (by omega) ?_
              refine e_Ok.run (t' := (48, [(0, (1, 275)), (1, (0, x)), (2, (0, y)), (3, (0, n)), (4, (0, y4)), (5, (0, y5))], [(0, 0), (0, 6 * y4 + y5), (1, 352)], v2)) 1 rfl ?_
              refine e_Ok.ast rfl (el_o rfl) rfl rfl (by omega) ?_
              generalize hw230 : e_up v2 352 (6 * y4 + y5) 0 = w230
              have f231 : e_fr mSe w w230 := e_fr.up j224 hw230 (by unfold mSe mCl; omega)
              refine e_Ok.inc (z := y5 + 1) rfl rfl (by omega) (by omega) ?_
              show e_Ok 20 elay ecode eI (d + 1) 417 (52, [(5, (0, y5 + 1)), (0, (1, 275)), (1, (0, x)), (2, (0, y)), (3, (0, n)), (4, (0, y4))], [], w230) _
              refine e_Ok.run (t' := (28, [(5, (0, y5 + 1)), (0, (1, 275)), (1, (0, x)), (2, (0, y)), (3, (0, n)), (4, (0, y4))], [], w230)) 1 rfl ?_
              refine e_Ok.sub eAlk (e_sub_of rfl ?_) (ih223 (y5 + 1) w230 ⟨f231, by omega, (fun i g1 g2 => Eq.trans (show w230 349 i = v2 349 i from by rw [← hw230]; exact e_up_ne _ _ (Or.inl (by decide))) (j226 i g1 g2)), (e_kn.oth j227 hw230 (by decide)), (fun i g1 g2 => e_kn.ext (k := 6 * y4 + y5) j228 hw230 (by omega) (by omega) i g1 (by omega))⟩ (by omega))
              exact ⟨rfl, rfl, rfl, rfl, rfl, rfl, trivial⟩
        refine e_Ok.sub eAlk (e_sub_of rfl ?_) (hL222 (7 + 1 : Int).toNat 0 w220 ⟨f221, by omega, (fun i g1 g2 => Eq.trans (show w220 349 i = w218 349 i from by rw [← hw220]; exact e_up_ne _ _ (Or.inl (by decide))) (Decidable.byCases (p := i = y4) (fun e => by rw [e, ← hw218]; exact e_up_eq _ _ _ _) (fun e => Eq.trans (show w218 349 i = v1 349 i from by rw [← hw218]; exact e_up_ne _ _ (Or.inr e)) (j5 i g1 (by omega))))), (fun i g1 g2 => e_kn.ext (k := y4) (e_kn.oth j6 hw218 (by decide)) hw220 (by omega) (by omega) i g1 (by omega)), (fun i g1 g2 => (e_kn.oth (e_kn.oth j7 hw218 (by decide)) hw220 (by decide)) i g1 (by omega))⟩ (by omega))
        exact ⟨rfl, rfl, rfl, rfl, rfl, rfl, trivial⟩
  refine e_Ok.sub eAlk (e_sub_of rfl ?_) (hL1 (1001 + 1 : Int).toNat 0 w ⟨(e_fr.refl w), by omega, (fun i g1 g2 => by omega), (fun i g1 g2 => by omega), (fun i g1 g2 => by omega)⟩ (by omega))
  exact ⟨rfl, rfl, rfl, rfl, rfl, trivial⟩
end
