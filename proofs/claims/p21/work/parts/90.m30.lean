noncomputable section
theorem mo_bg {t c k : Int} (ht : 0 ≤ t ∧ t ≤ 15) (q : moK c k) : ¬ mBg t c k := fun h => h.elim (moK_lv ht q) (fun h => by unfold moK at q; omega)
theorem mo_rk {t c k : Int} (ht : 0 ≤ t ∧ t ≤ 15) (q : moK c k) : ¬ mRk t c k := fun h => h.elim (moK_lv ht q) (fun h => by unfold moK at q; omega)
theorem or_lv {t k : Int} (ht : 0 ≤ t ∧ t ≤ 15) (q : orK k) : ¬ mLv t 276 k := by unfold orK at q; unfold mLv; omega
theorem or_bg {t k : Int} (ht : 0 ≤ t ∧ t ≤ 15) (q : orK k) : ¬ mBg t 276 k := fun h => h.elim (or_lv ht q) (fun h => by unfold orK at q; omega)
theorem or_rk {t k : Int} (ht : 0 ≤ t ∧ t ≤ 15) (q : orK k) : ¬ mRk t 276 k := fun h => h.elim (or_lv ht q) (fun h => by unfold orK at q; omega)
theorem no_90_0 {k : Int} : ¬ mTn 338 k := by unfold mTn; omega
theorem no_90_1 {k : Int} : ¬ mTn 328 k := by unfold mTn; omega
theorem no_90_2 {t : Int} {k : Int} : ¬ mRk t 338 k := by unfold mRk mLv; omega
theorem no_90_3 {t : Int} : ¬ mRk t 275 99 := by unfold mRk mLv; omega
theorem no_90_4 {t : Int} {k : Int} : ¬ mBg t 338 k := by unfold mBg mLv; omega
set_option maxHeartbeats 4000000 in
theorem c_373 {d : Nat} (hd : 37 ≤ d) {w : eW} (hT : e_Has mTy w) (hA : mAc w) (hCf : mCf w) (hMo : mMo w (-1)) (hOr : mOr w (w 275 40)) {t a g p : Int} (ht : 0 ≤ t ∧ t ≤ 15) (ha : 0 ≤ a ∧ a ≤ 3) (h96 : w 275 96 = t) (h97 : w 275 97 = 1260 * t + 416) (h98 : w 275 98 = a) {G : Int → Gh} (hG : gAll w G) {bs ow : Int → Int} (hAc : actOk w G t a g p bs ow) (harm : w 276 (1260 * t + 417) = a) (hE : w 276 5 ≤ 2147482000) : e_Ok 20 elay ecode eI d 373 (0, [(0, (1, 275))], [], w) (fun r' w' => r' = [] ∧ e_fr mTn w w' ∧ e_Has mTy w' ∧ (w 276 5 ≤ w' 276 5 ∧ w' 276 5 ≤ w 276 5 + 3) ∧ mMo w' (-1) ∧ mOr w' (w 275 40) ∧ w' 276 (1260 * t + 417) = w 276 (1260 * t + 417) ∧ (∀ v, 0 ≤ v → v ≤ 15 → v ≠ t → tkOk w G v → tkOk w' G v) ∧ actP w w' G t a g p) := by
  obtain ⟨d, rfl⟩ : ∃ e, d = e + 1 := ⟨d - 1, by omega⟩
  obtain ⟨hP, h102, hst, hdl, h416, hW, h99⟩ := id hAc
  have hC := hG a ha.1 ha.2
  obtain ⟨hpn, hpc, hru⟩ := id hP
  obtain ⟨hg, hF, hlow, hrr, hPn, hch, hpe⟩ := id hru
  have hCn := hC.1
  have hins := hC.2.1 p hpn.1 hpn.2
  have hbg := hlow.2.1 g (by omega) (by omega)
  have hpen := hins.1.2.2.2.1
  have hpib := hC.2.2.2.1.2.1 _ hrr.1 hrr.2
  obtain ⟨hi0, hi1, hi2, hi3, hi4, hi5, hi6, hi7, hi8, hi9, hi10, hi11, hi12, hi13, hi14, hi15, hi16, hi17, hi18, hi19⟩ := id hins
  replace hi1 := (show Hid _ from hi1)
  replace hi2 := (show Hid _ from hi2)
  replace hi3 := (show Hid _ from hi3)
  replace hi4 := (show Hid _ from hi4)
  replace hi5 := (show Hid _ from hi5)
  replace hi6 := (show Hid _ from hi6)
  replace hi7 := (show Hid _ from hi7)
  replace hi8 := (show Hid _ from hi8)
  replace hi9 := (show Hid _ from hi9)
  replace hi10 := (show Hid _ from hi10)
  replace hi11 := (show Hid _ from hi11)
  replace hi12 := (show Hid _ from hi12)
  replace hi13 := (show Hid _ from hi13)
  replace hi14 := (show Hid _ from hi14)
  replace hi15 := (show Hid _ from hi15)
  replace hi16 := (show Hid _ from hi16)
  replace hi17 := (show Hid _ from hi17)
  replace hi18 := (show Hid _ from hi18)
  replace hi19 := (show Hid _ from hi19)
  have hpp := e_Has.get hT (c := 275) (k := 40) (lo := 0) (hi := 32) rfl (by decide)
  have har := e_Has.get hT (c := 329) (k := 10000 * a + p) (lo := -2147483648) (hi := 2147483647) rfl (by decide)
  have hwd := e_Has.get hT (nR_WATCHED (t := t) ht) (by decide)
  refine e_Ok.run (t' := (1, [(0, (1, 275))], [(1, 275)], w)) 1 rfl ?_
  refine e_Ok.getr (z := 276) rfl (el_o rfl) rfl rfl (e_Has.eq hT rfl) (by omega) ?_
  refine e_Ok.run (t' := (5, [(0, (1, 275))], [(1, 275), (1, 276)], w)) 1 rfl ?_
  refine e_Ok.callV rfl (by omega) rfl rfl rfl rfl (c_362 hT (by omega) h97 (f := g + 1) (z := 1260 * t + 2 * g + 436) hF (by omega) (by omega)) (fun r1 w2 h3 => ?_)
  obtain ⟨rfl, rfl⟩ := h3
  show e_Ok 20 elay ecode eI (d + 1) 373 (8, [(0, (1, 275))], [(0, 1260 * t + 2 * g + 436), (1, 276)], w) _
  refine e_Ok.ald (z := p) rfl (el_o rfl) rfl (by omega) hpc (by omega) ?_
  refine e_Ok.run (t' := (11, [(1, (0, p)), (0, (1, 275))], [(1, 275)], w)) 2 rfl ?_
  refine e_Ok.getr (z := 328) rfl (el_o rfl) rfl rfl (e_Has.eq hT rfl) (by omega) ?_
  refine e_Ok.run (t' := (18, [(1, (0, p)), (0, (1, 275))], [(1, 275), (0, 10000), (1, 328)], w)) 2 rfl ?_
  refine e_Ok.getf (z := a) rfl (el_o rfl) rfl rfl h98 (by omega) ?_
  refine e_Ok.mul (z := 10000 * a) rfl (by omega) (by omega) ?_
  refine e_Ok.run (t' := (23, [(1, (0, p)), (0, (1, 275))], [(0, p), (0, 10000 * a), (1, 328)], w)) 1 rfl ?_
  refine e_Ok.add (z := 10000 * a + p) rfl (by omega) (by omega) ?_
  refine e_Ok.ald (z := w 328 (10000 * a + p)) rfl (el_o rfl) rfl (by omega) rfl (by omega) ?_
  refine e_Ok.run (t' := (27, [(2, (0, w 328 (10000 * a + p))), (1, (0, p)), (0, (1, 275))], [(1, 275)], w)) 2 rfl ?_
  refine e_Ok.getr (z := 329) rfl (el_o rfl) rfl rfl (e_Has.eq hT rfl) (by omega) ?_
  refine e_Ok.run (t' := (34, [(2, (0, w 328 (10000 * a + p))), (1, (0, p)), (0, (1, 275))], [(1, 275), (0, 10000), (1, 329)], w)) 2 rfl ?_
  refine e_Ok.getf (z := a) rfl (el_o rfl) rfl rfl h98 (by omega) ?_
  refine e_Ok.mul (z := 10000 * a) rfl (by omega) (by omega) ?_
  refine e_Ok.run (t' := (39, [(2, (0, w 328 (10000 * a + p))), (1, (0, p)), (0, (1, 275))], [(0, p), (0, 10000 * a), (1, 329)], w)) 1 rfl ?_
  refine e_Ok.add (z := 10000 * a + p) rfl (by omega) (by omega) ?_
  refine e_Ok.ald (z := w 329 (10000 * a + p)) rfl (el_o rfl) rfl (by omega) rfl (by omega) ?_
  refine e_Ok.run (t' := (45, [(3, (0, w 329 (10000 * a + p))), (2, (0, w 328 (10000 * a + p))), (1, (0, p)), (0, (1, 275))], [(0, 30), (0, w 328 (10000 * a + p))], w)) 3 rfl ?_
  refine e_Ok.if2 rfl (fun h4 => ?_) (fun h4 => ?_)
  · replace h4 : (w 328 (10000 * a + p) : Int) ≠ 30 := h4
    refine e_Ok.run (t' := (58, [(3, (0, w 329 (10000 * a + p))), (2, (0, w 328 (10000 * a + p))), (1, (0, p)), (0, (1, 275))], [(0, 30), (0, w 328 (10000 * a + p))], w)) 2 rfl ?_
    refine e_Ok.if2 rfl (fun h5 => ?_) (fun h5 => ?_)
    · replace h5 : (w 328 (10000 * a + p) : Int) ≥ 30 := h5
      refine e_Ok.run (t' := (75, [(3, (0, w 329 (10000 * a + p))), (2, (0, w 328 (10000 * a + p))), (1, (0, p)), (0, (1, 275))], [(0, p), (0, w 329 (10000 * a + p)), (0, w 328 (10000 * a + p)), (1, 275)], w)) 4 rfl ?_
      refine e_Ok.callV rfl (by omega) rfl rfl rfl rfl (c_376_u (by omega) hT hA hCf hMo hOr ht ha h96 h97 h98 hC hP (by omega) h102 hst hdl h416 hW hG (by omega)) (fun r6 w7 h8 => ?_)
      obtain ⟨rfl, q9, q9T, q9n, q9m, q9o, q9w, q9z, q9k, q99, q9v, q9c⟩ := h8
      have f10 : e_fr mTn w w7 := e_fr.trans (e_fr.refl w) (e_fr.mono q9 (fun c k q => by exact q))
      show e_Ok 20 elay ecode eI (d + 1) 373 (78, [(3, (0, w 329 (10000 * a + p))), (2, (0, w 328 (10000 * a + p))), (1, (0, p)), (0, (1, 275))], [], w7) _
      refine e_Ok.rets rfl rfl ?_
      have hn := hCn.2.1
      have e338 : w7 338 a = w 338 a := q9 338 _ no_90_0
      have hW' : 0 ≤ w7 276 (1260 * t + 424) → w7 276 (1260 * t + 425) < w7 338 a := by rw [e338]; exact q9w
      refine ⟨rfl, f10, q9T, by omega, q9m, q9o, q9k, q9v, ?_⟩
      rcases q9c with zf | ⟨z1, z2, g2, p2, b2, o2, z3, z4⟩ | ⟨z1, z2, z3, z4, g2, p2, b2, o2, z5, z6, z7, z8⟩
      · exact Or.inl ⟨zf.1, tkOk.not (Or.inr (by omega))⟩
      · exact actP.rest ha (q9k.trans harm) z1 hW' z3 z4
      · have hs1 := hi0.2.2.2.2
        refine actP.call hn h416 h99 q99 z3 hW' z1 (z2.trans h416.symm) (by omega) (fun q1 q2 => ?_) z5 z6 z7
        rcases hs1 with hs1 | hs1
        · rw [hs1]
          exact mu2_out q99 (by omega) (q9 328 _ no_90_1) (q9z hs1) hwd.2 (z8.resolve_left (by omega)) hg (by omega) q1 q2
        · rw [hs1]
          exact mu2_in q99 (by omega) (Or.inr rfl) hg (by omega) q1 q2
    · replace h5 : (w 328 (10000 * a + p) : Int) < 30 := by have q : ¬ ((w 328 (10000 * a + p) : Int) ≥ 30) := h5; omega
      refine e_Ok.run (t' := (65, [(3, (0, w 329 (10000 * a + p))), (2, (0, w 328 (10000 * a + p))), (1, (0, p)), (0, (1, 275))], [(0, p), (0, w 329 (10000 * a + p)), (0, w 328 (10000 * a + p)), (1, 275)], w)) 4 rfl ?_
      refine e_Ok.callV rfl (by omega) rfl rfl rfl rfl (c_374 (by omega) hT hA ht ha h96 h97 h98 hC hP (by omega) h102 hst (by omega)) (fun r11 w12 h13 => ?_)
      obtain ⟨rfl, ⟨q14, q14S⟩, q14T, q14n, q14c⟩ := h13
      have f15 : e_fr mTn w w12 := e_fr.trans (e_fr.refl w) (e_fr.mono q14 (fun c k q => by exact rk_tn ht q))
      show e_Ok 20 elay ecode eI (d + 1) 373 (68, [(3, (0, w 329 (10000 * a + p))), (2, (0, w 328 (10000 * a + p))), (1, (0, p)), (0, (1, 275))], [], w12) _
      refine e_Ok.run (t' := (78, [(3, (0, w 329 (10000 * a + p))), (2, (0, w 328 (10000 * a + p))), (1, (0, p)), (0, (1, 275))], [], w12)) 1 rfl ?_
      refine e_Ok.rets rfl rfl ?_
      have hn := hCn.2.1
      have e17 : w12 276 (1260 * t + 417) = w 276 (1260 * t + 417) := q14 276 _ (by unfold mRk mLv; omega)
      have e24 : w12 276 (1260 * t + 424) = w 276 (1260 * t + 424) := q14 276 _ (by unfold mRk mLv; omega)
      have e25 : w12 276 (1260 * t + 425) = w 276 (1260 * t + 425) := q14 276 _ (by unfold mRk mLv; omega)
      have e338 : w12 338 a = w 338 a := q14 338 _ (by first | exact no_90_2 | (unfold mRk mLv; omega))
      have hW' : 0 ≤ w12 276 (1260 * t + 424) → w12 276 (1260 * t + 425) < w12 338 a := by rw [e24, e25, e338]; exact hW
      have e3 : ∀ c k, 328 ≤ c → c ≤ 338 → w12 c k = w c k := fun c k q1 q2 => q14 c k (by unfold mRk mLv; omega)
      refine ⟨rfl, f15, q14T, by omega, mMo.rel hMo (e_Has.mo hT) hCf q14S (fun c k h => q14 c k (mo_rk ht h)), mOr.fr hOr (by omega) (e_Has.orn hT) (e_Has.orw hT (by omega)) (fun k h => q14 276 k (or_rk ht h)), e17, fun v v1 v2 v3 hv => tkOk.hop hG hv q14 (fun c k h => rk_tk ht ⟨v1, v2⟩ v3 h), ?_⟩
      have k1 := hi1.out (by omega)
      have e9 : w12 275 99 = w 275 99 := q14 275 99 (by first | exact no_90_3 | (unfold mRk mLv; omega))
      have hs1 : (G a).sg p = 1 := k1.1
      rcases q14c with ⟨zd, zf⟩ | ⟨y1, y2, y3, p2, y4, y5, y6, y7, y8⟩
      · exact actP.fin hn (by omega) h416 h99 e9 zd hW' (fun g' p' q1 q2 _ _ => by rw [hs1]; exact mu2_in e9 (by omega) (Or.inr rfl) hg (by omega) q1 q2) zf
      · exact actP.step hn h416 (by omega) y5 y6 (fun h => by omega) hW' y1 y2 (by omega) (fun q1 q2 => by rw [hs1]; exact mu2_in e9 (by omega) (Or.inl ⟨y7, rfl, y8⟩) hg (by omega) q1 q2) y4
  · replace h4 : (w 328 (10000 * a + p) : Int) = 30 := by have q : ¬ ((w 328 (10000 * a + p) : Int) ≠ 30) := h4; omega
    refine e_Ok.run (t' := (49, [(3, (0, w 329 (10000 * a + p))), (2, (0, w 328 (10000 * a + p))), (1, (0, p)), (0, (1, 275))], [(1, 275)], w)) 1 rfl ?_
    refine e_Ok.callV rfl (by omega) rfl rfl rfl rfl (c_368 (by omega) hT ht ha h96 h97 h98 hC hP (by omega) (by omega) h99 hW) (fun r16 w17 h18 => ?_)
    obtain ⟨rfl, ⟨q19, q19S⟩, q19T, q19n, q19c⟩ := h18
    have f20 : e_fr mTn w w17 := e_fr.trans (e_fr.refl w) (e_fr.mono q19 (fun c k q => by exact bg_tn ht q))
    show e_Ok 20 elay ecode eI (d + 1) 373 (52, [(3, (0, w 329 (10000 * a + p))), (2, (0, w 328 (10000 * a + p))), (1, (0, p)), (0, (1, 275))], [], w17) _
    refine e_Ok.run (t' := (78, [(3, (0, w 329 (10000 * a + p))), (2, (0, w 328 (10000 * a + p))), (1, (0, p)), (0, (1, 275))], [], w17)) 1 rfl ?_
    refine e_Ok.rets rfl rfl ?_
    have hn := hCn.2.1
    have e17 : w17 276 (1260 * t + 417) = w 276 (1260 * t + 417) := q19 276 _ (by unfold mBg mLv; omega)
    have e24 : w17 276 (1260 * t + 424) = w 276 (1260 * t + 424) := q19 276 _ (by unfold mBg mLv; omega)
    have e25 : w17 276 (1260 * t + 425) = w 276 (1260 * t + 425) := q19 276 _ (by unfold mBg mLv; omega)
    have e338 : w17 338 a = w 338 a := q19 338 _ (by first | exact no_90_4 | (unfold mBg mLv; omega))
    have hW' : 0 ≤ w17 276 (1260 * t + 424) → w17 276 (1260 * t + 425) < w17 338 a := by rw [e24, e25, e338]; exact hW
    have e3 : ∀ c k, 328 ≤ c → c ≤ 338 → w17 c k = w c k := fun c k q1 q2 => q19 c k (by unfold mBg mLv; omega)
    refine ⟨rfl, f20, q19T, by omega, mMo.rel hMo (e_Has.mo hT) hCf q19S (fun c k h => q19 c k (mo_bg ht h)), mOr.fr hOr (by omega) (e_Has.orn hT) (e_Has.orw hT (by omega)) (fun k h => q19 276 k (or_bg ht h)), e17, fun v v1 v2 v3 hv => tkOk.hop hG hv q19 (fun c k h => bg_tk ht ⟨v1, v2⟩ v3 h), ?_⟩
    have k7 := hi7.out (by omega)
    obtain ⟨z1, z2, z3⟩ | ⟨z9, z1, z2, z3, zc⟩ | ⟨z1, z2, z3, z4, z5, z6, z7⟩ := q19c
    · exact actP.rest ha (e17.trans harm) z1 hW' (gT.fr hC hP e3 (fun k _ => z3 k)) k7.1
    · have e8 : w17 276 (w 276 (1260 * t + 424) + 352) = w 276 (w 276 (1260 * t + 424) + 352) := q19 276 _ (by unfold mBg mLv; omega)
      have hmu : ∀ g' p', 0 ≤ g' ∧ g' ≤ 19 → 0 ≤ p' ∧ p' ≤ 10000 → mu2 w17 t a g' p' 0 < mu2 w t a g p ((G a).sg p) := fun g' p' q1 q2 => mu2_watch z9 k7.2.1 z1 z2 e24 e8 z3 hg (by omega) q1 q2
      rcases zc with ⟨zd, zf⟩ | ⟨y1, y2, y3, y4, p2, b2, o2, y5, y6, y7, y8⟩
      · exact actP.fin hn (by omega) h416 h99 z9 zd hW' (fun g' p' q1 q2 _ _ => hmu g' p' q1 q2) zf
      · exact actP.call hn h416 h99 z9 y8 hW' y1 y2 (by omega) (fun q1 q2 => hmu _ _ q1 q2) y5 y6 y7
    · have hs1 := (hC.2.1 (p + 1) (by omega) (by omega)).1.2.2.2.2
      exact actP.step hn h416 (by omega) (by rw [show (G a).dl (p + 1) = 0 from k7.2.2.2.1]; exact z6) (fun i q1 q2 => by have := k7.2.2.2.1; omega) (fun _ => k7.2.2.2.1) hW' z3 z4 (by omega) (fun q1 q2 => mu2_begin z1 z2 hg (by omega) q1 q2) z7
end
