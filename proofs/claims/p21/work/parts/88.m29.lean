noncomputable section
def mNu (z c k : Int) : Prop := mNt z c k
def mTn (c k : Int) : Prop := (c = 275 ∧ (k = 99 ∨ k = 100 ∨ k = 102)) ∨ c = 326 ∨ c = 327 ∨ c = 321 ∨ c = 322 ∨ c = 345 ∨ (c = 276 ∧ (k = 5 ∨ k = 6 ∨ (16 ≤ k ∧ k ≤ 223) ∨ (352 ≤ k ∧ k < 20836) ∨ 20868 ≤ k))
def mSr (t u c k : Int) : Prop := mLv t c k ∨ mNt u c k
theorem sm_tn {t a c k : Int} (ht : 0 ≤ t ∧ t ≤ 15) (ha : 0 ≤ a ∧ a ≤ 3) (q : mSm t a c k) : mTn c k := by
  rcases q with (q | q) | q | q
  · unfold mLv at q; unfold mTn; omega
  · unfold mTn; omega
  · rcases q with q | q | q | q | q
    · unfold mTn; omega
    · unfold mTn; omega
    · unfold mTn; omega
    · rcases q with q | q | ⟨e, q⟩
      · unfold mTn; omega
      · unfold mTn; omega
      · rcases q with q | q | q | q
        · unfold mTn; omega
        · unfold mTn; omega
        · unfold mTn; omega
        · unfold mTn; omega
    · obtain ⟨e, q⟩ := q
      rcases q with q | q | q | q | q | q | q | q | q | q <;> (unfold mTn; omega)
  · unfold mTn; omega
theorem bg_tn {t c k : Int} (ht : 0 ≤ t ∧ t ≤ 15) (q : mBg t c k) : mTn c k := by unfold mBg mLv at q; unfold mTn; omega
theorem rk_tn {t c k : Int} (ht : 0 ≤ t ∧ t ≤ 15) (q : mRk t c k) : mTn c k := by unfold mRk mLv at q; unfold mTn; omega
theorem sr_tn {t u c k : Int} (ht : 0 ≤ t ∧ t ≤ 15) (hu : 0 ≤ u ∧ u ≤ 15) (q : mSr t u c k) : mTn c k := by
  rcases q with q | q
  · unfold mLv at q; unfold mTn; omega
  · unfold mNt at q; unfold mTn; omega
theorem lv_tk {t v c k : Int} (ht : 0 ≤ t ∧ t ≤ 15) (hv : 0 ≤ v ∧ v ≤ 15) (hn : v ≠ t) (q : mLv t c k) : ¬ (328 ≤ c ∧ c ≤ 338) ∧ (c = 276 → k ≠ 1260 * v + 416 ∧ ¬ tkK v k) := by
  refine ⟨by unfold mLv at q; omega, fun e => ⟨by unfold mLv at q; omega, fun h => ?_⟩⟩
  unfold tkK at h
  unfold mLv at q
  omega
theorem sm_tk {t a v c k : Int} (ht : 0 ≤ t ∧ t ≤ 15) (ha : 0 ≤ a ∧ a ≤ 3) (hv : 0 ≤ v ∧ v ≤ 15) (hn : v ≠ t) (q : mSm t a c k) : ¬ (328 ≤ c ∧ c ≤ 338) ∧ (c = 276 → k ≠ 1260 * v + 416 ∧ ¬ tkK v k) := by
  rcases q with (q | q) | q | q
  · exact lv_tk ht hv hn q
  · exact ⟨by omega, fun e => ⟨by omega, fun h => by unfold tkK at h; omega⟩⟩
  · exact ⟨by unfold mOt mGr at q; omega, fun e => ⟨by unfold mOt mGr at q; omega, fun h => by unfold tkK at h; unfold mOt mGr at q; omega⟩⟩
  · exact ⟨by omega, fun e => ⟨by omega, fun h => by unfold tkK at h; omega⟩⟩
theorem bg_tk {t v c k : Int} (ht : 0 ≤ t ∧ t ≤ 15) (hv : 0 ≤ v ∧ v ≤ 15) (hn : v ≠ t) (q : mBg t c k) : ¬ (328 ≤ c ∧ c ≤ 338) ∧ (c = 276 → k ≠ 1260 * v + 416 ∧ ¬ tkK v k) := by
  rcases q with q | q | q
  · exact lv_tk ht hv hn q
  · exact ⟨by omega, fun e => by omega⟩
  · exact ⟨by omega, fun e => ⟨by omega, fun h => by unfold tkK at h; omega⟩⟩
theorem rk_tk {t v c k : Int} (ht : 0 ≤ t ∧ t ≤ 15) (hv : 0 ≤ v ∧ v ≤ 15) (hn : v ≠ t) (q : mRk t c k) : ¬ (328 ≤ c ∧ c ≤ 338) ∧ (c = 276 → k ≠ 1260 * v + 416 ∧ ¬ tkK v k) := by
  rcases q with q | q | q
  · exact lv_tk ht hv hn q
  · exact ⟨by omega, fun e => by omega⟩
  · exact ⟨by omega, fun e => by omega⟩
theorem sr_tk {t u v c k : Int} (ht : 0 ≤ t ∧ t ≤ 15) (hu : 0 ≤ u ∧ u ≤ 15) (hv : 0 ≤ v ∧ v ≤ 15) (hn : v ≠ t) (hn2 : v ≠ u) (q : mSr t u c k) : ¬ (328 ≤ c ∧ c ≤ 338) ∧ (c = 276 → k ≠ 1260 * v + 416 ∧ ¬ tkK v k) := by
  rcases q with q | q
  · exact lv_tk ht hv hn q
  · unfold mNt at q
    exact ⟨by omega, fun e => ⟨by omega, fun h => by unfold tkK at h; omega⟩⟩
theorem moK_nt {u c k : Int} (hu : 0 ≤ u ∧ u ≤ 15) (q : moK c k ∨ (c = 276 ∧ 16 ≤ k ∧ k < 160)) : ¬ mNu u c k := by unfold moK at q; unfold mNu mNt; omega
theorem c_378_r {d : Nat} (hd : 31 ≤ d) {w : eW} (hT : e_Has mTy w) {a q : Int} (ha : 0 ≤ a ∧ a ≤ 3) (h98 : w 275 98 = a) (hq : 0 ≤ q ∧ q ≤ 31) (hent : 0 ≤ w 337 (32 * a + q) ∧ w 337 (32 * a + q) ≤ 9999) : e_Ok 20 elay ecode eI d 378 (0, [(0, (1, 275)), (1, (0, 39)), (2, (0, q))], [], w) (fun r w' => ∃ z : Int, r = [(0, z)] ∧ ((z = 10 ∧ w = w') ∨ (z = 0 ∧ ∃ u : Int, (0 ≤ u ∧ u ≤ 15) ∧ (w 276 (1260 * u + 416) = 0 ∨ w 276 (1260 * u + 416) = 6) ∧ e_fr (mNt u) w w' ∧ e_Has mTy w' ∧ w' 276 (1260 * u + 416) = 1 ∧ w' 276 (1260 * u + 417) = a ∧ w' 276 (1260 * u + 424) = -1 ∧ w' 276 (1260 * u + 428) = 1 ∧ w' 276 (1260 * u + 429) = 0 ∧ w' 276 (1260 * u + 436) = w 337 (32 * a + q) ∧ w' 276 (1260 * u + 437) = 0))) := by
  obtain ⟨d, rfl⟩ : ∃ e, d = e + 1 := ⟨d - 1, by omega⟩
  refine e_Ok.run (t' := (1, [(0, (1, 275)), (1, (0, 39)), (2, (0, q))], [(0, 39)], w)) 1 rfl ?_
  have hs2 : ∀ x : Int, 39 ≤ x ∧ x ≤ 39 → (x = 39) := fun x h => by omega
  obtain h1 := hs2 (39) (by omega)
  · refine e_Ok.sw (tg := 148) rfl (by rw [h1]; rfl) ?_
    refine e_Ok.run (t' := (150, [(0, (1, 275)), (1, (0, 39)), (2, (0, q))], [(1, 275), (1, 275)], w)) 2 rfl ?_
    refine e_Ok.getf (z := a) rfl (el_o rfl) rfl rfl h98 (by omega) ?_
    refine e_Ok.run (t' := (154, [(0, (1, 275)), (1, (0, 39)), (2, (0, q))], [(0, q), (0, a), (1, 275)], w)) 1 rfl ?_
    refine e_Ok.callV rfl (by omega) rfl rfl rfl rfl (c_359 (by omega) hT (by omega) (by omega) hent (e_Has.get hT (c := 276) (k := 0) (lo := 0) (hi := 6000) rfl (by decide)).2) (fun r3 w4 h5 => ?_)
    obtain ⟨z6, rfl, q7h⟩ := h5
    obtain ⟨rfl, rfl⟩ | ⟨q7z, q7s, q7, q7T, q71, q72, q73, q74, q75, q76, q77⟩ := q7h
    · show e_Ok 20 elay ecode eI (d + 1) 378 (157, [(0, (1, 275)), (1, (0, 39)), (2, (0, q))], [(0, (-1))], w) _
      refine e_Ok.if1 rfl (fun h8 => ?_) (fun h8 => ?_)
      · replace h8 : ((-1) : Int) ≥ 0 := h8
        exfalso; omega
      · replace h8 : ((-1) : Int) < 0 := by have q : ¬ (((-1) : Int) ≥ 0) := h8; omega
        refine e_Ok.run (t' := (166, [(0, (1, 275)), (1, (0, 39)), (2, (0, q))], [(0, 10)], w)) 2 rfl ?_
        refine e_Ok.rets rfl rfl ?_
        exact ⟨_, rfl, Or.inl ⟨rfl, rfl⟩⟩
    · show e_Ok 20 elay ecode eI (d + 1) 378 (157, [(0, (1, 275)), (1, (0, 39)), (2, (0, q))], [(0, z6)], w4) _
      refine e_Ok.if1 rfl (fun h9 => ?_) (fun h9 => ?_)
      · replace h9 : (z6 : Int) ≥ 0 := h9
        refine e_Ok.run (t' := (166, [(0, (1, 275)), (1, (0, 39)), (2, (0, q))], [(0, 0)], w4)) 1 rfl ?_
        refine e_Ok.rets rfl rfl ?_
        exact ⟨_, rfl, Or.inr ⟨rfl, _, q7z, q7s, q7, q7T, q71, q72, q73, q74, q75, q76, q77⟩⟩
      · replace h9 : (z6 : Int) < 0 := by have q : ¬ ((z6 : Int) ≥ 0) := h9; omega
        exfalso; omega
theorem no_88_0 {t : Int} (ht : 0 ≤ t ∧ t ≤ 15) : ¬ mLv t 276 (1260 * t + 424) := by unfold mLv; omega
theorem no_88_1 {t : Int} (ht : 0 ≤ t ∧ t ≤ 15) : ¬ mLv t 276 (1260 * t + 425) := by unfold mLv; omega
theorem no_88_2 {t : Int} (ht : 0 ≤ t ∧ t ≤ 15) : ¬ mLv t 276 (1260 * t + 417) := by unfold mLv; omega
theorem no_88_3 {t : Int} : ¬ mLv t 275 99 := by unfold mLv; omega
theorem no_88_4 {z : Int} {k : Int} : ¬ mNu z 275 k := by unfold mNu mNt; omega
theorem no_88_5 {z : Int} {k : Int} : ¬ mNu z 330 k := by unfold mNu mNt; omega
set_option maxHeartbeats 4000000 in
theorem c_376_r {d : Nat} (hd : 35 ≤ d) {w : eW} (hT : e_Has mTy w) (hA : mAc w) (hCf : mCf w) (hMo : mMo w (-1)) (hOr : mOr w (w 275 40)) {t a g : Int} (ht : 0 ≤ t ∧ t ≤ 15) (ha : 0 ≤ a ∧ a ≤ 3) (h96 : w 275 96 = t) (h97 : w 275 97 = 1260 * t + 416) (h98 : w 275 98 = a) {n nt nw : Int} {dl sg pi en : Int → Int} {an br : Int → Int → Prop} {bs ow : Int → Int} (hC : cOk w a n nt nw dl sg pi en an br) {p : Int} (hP : topOk w a t g p n nt nw dl sg pi an br bs ow) (hE : w 276 5 ≤ 2147482000) (h102 : w 275 102 = dl p) (hst : e_kn w 345 0 (dl p - 1)) (hdl : sg p = 0 → dl p = 0) (h416 : w 276 (1260 * t + 416) = 1) (hW : 0 ≤ w 276 (1260 * t + 424) → w 276 (1260 * t + 425) < w 338 a) {G : Int → Gh} (hG : gAll w G) (hop : w 328 (10000 * a + p) = 39) : e_Ok 20 elay ecode eI d 376 (0, [(0, (1, 275)), (1, (0, w 328 (10000 * a + p))), (2, (0, w 329 (10000 * a + p))), (3, (0, p))], [], w) (fun r' w' => r' = [] ∧ e_fr mTn w w' ∧ e_Has mTy w' ∧ (w 276 5 ≤ w' 276 5 ∧ w' 276 5 ≤ w 276 5 + 3) ∧ mMo w' (-1) ∧ mOr w' (w 275 40) ∧ (0 ≤ w' 276 (1260 * t + 424) → w' 276 (1260 * t + 425) < w 338 a) ∧ (sg p = 0 → ∀ k, (352 ≤ k ∧ k ≤ 415) ∨ k = 1260 * t + 424 ∨ k = 1260 * t + 426 → w' 276 k = w 276 k) ∧ w' 276 (1260 * t + 417) = w 276 (1260 * t + 417) ∧ w' 275 99 = w 275 99 ∧ (∀ v, 0 ≤ v → v ≤ 15 → v ≠ t → tkOk w G v → tkOk w' G v) ∧ ((w' 275 100 = 1 ∧ (w' 276 (1260 * t + 416) = 6 ∨ w' 276 (1260 * t + 416) = 7)) ∨ (w' 275 100 = 1 ∧ (2 ≤ w' 276 (1260 * t + 416) ∧ w' 276 (1260 * t + 416) ≤ 5) ∧ ∃ (g' p' : Int) (bs' ow' : Int → Int), topOk w' a t g' p' n nt nw dl sg pi an br bs' ow' ∧ dl p' = 0) ∨ (w' 275 100 = w 275 100 ∧ w' 276 (1260 * t + 416) = 1 ∧ w' 275 102 = 0 ∧ (w' 276 5 ≤ w 276 5 + 1 ∧ (sg p = 0 → w' 276 5 = w 276 5)) ∧ ∃ (g' p' : Int) (bs' ow' : Int → Int), topOk w' a t g' p' n nt nw dl sg pi an br bs' ow' ∧ dl p' = 0 ∧ sg p' = 0 ∧ (sg p = 1 ∨ (g' ≤ g ∧ (g' = g → p < p')) ∨ w 328 (10000 * a + p') = 30)))) := by
  obtain ⟨d, rfl⟩ : ∃ e, d = e + 1 := ⟨d - 1, by omega⟩
  obtain ⟨hpn, hpc, hru⟩ := id hP
  obtain ⟨hg, hF, hlow, hrr, hPn, hch, hpe⟩ := id hru
  have hCn := hC.1
  have hins := hC.2.1 p hpn.1 hpn.2
  have hbg := hlow.2.1 g (by omega) (by omega)
  have hpen := hins.1.2.2.2.1
  have hpib := hC.2.2.2.1.2.1 _ hrr.1 hrr.2
  obtain ⟨hi0, hi1, hi2, hi3, hi4, hi5, hi6, hi7, hi8, hi9, hi10, hi11, hi12, hi13, hi14, hi15, hi16, hi17, hi18, hi19⟩ := id hins
  replace hi1 := (show Hid _ from hi1)
  replace hi2 := (show Hid _ from hi2)
  replace hi3 := (show Hid _ from hi3)
  replace hi4 := (show Hid _ from hi4)
  replace hi5 := (show Hid _ from hi5)
  replace hi6 := (show Hid _ from hi6)
  replace hi7 := (show Hid _ from hi7)
  replace hi8 := (show Hid _ from hi8)
  replace hi9 := (show Hid _ from hi9)
  replace hi10 := (show Hid _ from hi10)
  replace hi11 := (show Hid _ from hi11)
  replace hi12 := (show Hid _ from hi12)
  replace hi13 := (show Hid _ from hi13)
  replace hi14 := (show Hid _ from hi14)
  replace hi15 := (show Hid _ from hi15)
  replace hi16 := (show Hid _ from hi16)
  replace hi17 := (show Hid _ from hi17)
  replace hi18 := (show Hid _ from hi18)
  replace hi19 := (show Hid _ from hi19)
  have hpp := e_Has.get hT (c := 275) (k := 40) (lo := 0) (hi := 32) rfl (by decide)
  have hrn_ := e_Has.get hT (c := 338) (k := a) (lo := 0) (hi := 32) rfl (by decide)
  have har := e_Has.get hT (c := 329) (k := 10000 * a + p) (lo := -2147483648) (hi := 2147483647) rfl (by decide)
  have htm := e_Has.get hT (c := 276) (k := 0) (lo := 0) (hi := 6000) rfl (by decide)
  have hi15a := hi15.out (by omega)
  have k8 := hi8.out (by omega)
  unfold iS iFT at k8
  have k14 := hi14.out (by omega)
  refine e_Ok.run (t' := (1, [(0, (1, 275)), (1, (0, w 328 (10000 * a + p))), (2, (0, w 329 (10000 * a + p))), (3, (0, p))], [(0, w 328 (10000 * a + p))], w)) 1 rfl ?_
  have hs2 : ∀ x : Int, 39 ≤ x ∧ x ≤ 39 → (x = 39) := fun x h => by omega
  obtain h1 := hs2 (w 328 (10000 * a + p)) (by omega)
  · refine e_Ok.sw (tg := 399) rfl (by rw [h1]; rfl) ?_
    refine e_Ok.run (t' := (402, [(0, (1, 275)), (1, (0, w 328 (10000 * a + p))), (2, (0, w 329 (10000 * a + p))), (3, (0, p))], [(0, w 329 (10000 * a + p)), (0, w 328 (10000 * a + p)), (1, 275)], w)) 3 rfl ?_
    have hrt := hC.2.2.2.2.2.2 (w 329 (10000 * a + p)) hi15a.1 hi15a.2
    unfold tgt at hrt
    refine e_Ok.callV rfl (by omega) rfl rfl rfl rfl ((show e_Ok 20 elay ecode eI _ 378 (0, [(0, (1, 275)), (1, (0, w 328 (10000 * a + p))), (2, (0, w 329 (10000 * a + p)))], [], w) _ by rw [hop]; exact c_378_r (by omega) hT ha h98 (by omega) (by omega))) (fun r3 w4 h5 => ?_)
    obtain ⟨z6, rfl, q7h⟩ := h5
    obtain ⟨rfl, rfl⟩ | ⟨rfl, q7u, ⟨q7z, q7s, q7, q7T, q71, q72, q73, q74, q75, q76, q77⟩⟩ := q7h
    · show e_Ok 20 elay ecode eI (d + 1) 376 (405, [(0, (1, 275)), (1, (0, w 328 (10000 * a + p))), (2, (0, w 329 (10000 * a + p))), (3, (0, p))], [(0, 10)], w) _
      refine e_Ok.run (t' := (409, [(6, (0, 10)), (0, (1, 275)), (1, (0, w 328 (10000 * a + p))), (2, (0, w 329 (10000 * a + p))), (3, (0, p))], [(0, 10)], w)) 2 rfl ?_
      refine e_Ok.if1 rfl (fun h8 => ?_) (fun h8 => ?_)
      · replace h8 : (10 : Int) = 0 := h8
        exfalso; omega
      · replace h8 : (10 : Int) ≠ 0 := by have q : ¬ ((10 : Int) = 0) := h8; omega
        refine e_Ok.run (t' := (415, [(6, (0, 10)), (0, (1, 275)), (1, (0, w 328 (10000 * a + p))), (2, (0, w 329 (10000 * a + p))), (3, (0, p))], [(0, 10), (1, 275)], w)) 2 rfl ?_
        refine e_Ok.callV rfl (by omega) rfl rfl rfl rfl (c_369 (by omega) hT (by omega) (by omega) h96 h97 h98 (cOk.fr (fun c k q1 q2 => rfl) hC) (runOk.at (runOk.fr (w' := w) (fun c k q1 q2 => rfl) (fun i q1 q2 => ⟨rfl, rfl⟩) rfl rfl (fun k q1 q2 => rfl) (by omega) hru) (by omega) hpc rfl) (by omega) (by omega)) (fun r9 w10 h11 => ?_)
        obtain ⟨rfl, ⟨q12, q12S⟩, q12T, q12n, q12d, q12c⟩ := h11
        have f13 : e_fr mTn w w10 := e_fr.trans (e_fr.refl w) (e_fr.mono q12 (fun c k q => by unfold mLv at q; unfold mTn; omega))
        show e_Ok 20 elay ecode eI (d + 1) 376 (418, [(6, (0, 10)), (0, (1, 275)), (1, (0, w 328 (10000 * a + p))), (2, (0, w 329 (10000 * a + p))), (3, (0, p))], [], w10) _
        refine e_Ok.rets rfl rfl ?_
        have e14 : w10 276 5 = w10 276 5 := rfl
        exact ⟨rfl, f13, q12T, by omega, (mMo.rel hMo (e_Has.mo hT) hCf q12S (fun c k q => q12 c k (moK_lv ht q))), (mOr.fr hOr (by omega) (e_Has.orn hT) (e_Has.orw hT (by omega)) (fun k q => by unfold orK at q; exact ((q12 276 k (by unfold mLv; omega)).trans rfl))), (fun e => by have e1 : w10 276 (1260 * t + 424) = w 276 (1260 * t + 424) := ((q12 276 (1260 * t + 424) (by first | exact no_88_0 (by omega) | (unfold mLv; omega))).trans rfl); have e2 : w10 276 (1260 * t + 425) = w 276 (1260 * t + 425) := ((q12 276 (1260 * t + 425) (by first | exact no_88_1 (by omega) | (unfold mLv; omega))).trans rfl); have := hW (by omega); omega), (fun e => by exfalso; omega), ((q12 276 (1260 * t + 417) (by first | exact no_88_2 (by omega) | (unfold mLv; omega))).trans rfl), ((q12 275 99 (by first | exact no_88_3 | (unfold mLv; omega))).trans rfl), (fun v v1 v2 v3 hv => tkOk.hop hG hv q12 (fun c k q => lv_tk ht ⟨v1, v2⟩ v3 q)), q12c.elim (fun h => Or.inl h) (fun h => Or.inr (Or.inr ⟨h.1, h.2.1.trans h416, q12d, by have := h.2.2.1; omega, by obtain ⟨g2, p2, b2, o2, k21, k22, k23, k24, k25⟩ := h.2.2.2; exact ⟨g2, p2, b2, o2, k23, k24, k25, Or.inr (Or.inl ⟨k21, k22⟩)⟩⟩))⟩
    · show e_Ok 20 elay ecode eI (d + 1) 376 (405, [(0, (1, 275)), (1, (0, w 328 (10000 * a + p))), (2, (0, w 329 (10000 * a + p))), (3, (0, p))], [(0, 0)], w4) _
      have hut : q7u ≠ t := fun e => by rw [e] at q7s; omega
      replace q7 : e_fr (mNu q7u) w w4 := q7
      have f15 : e_fr mTn w w4 := e_fr.trans (e_fr.refl w) (e_fr.mono q7 (fun c k q => by unfold mNu mNt at q; unfold mTn; omega))
      refine e_Ok.run (t' := (409, [(6, (0, 0)), (0, (1, 275)), (1, (0, w 328 (10000 * a + p))), (2, (0, w 329 (10000 * a + p))), (3, (0, p))], [(0, 0)], w4)) 2 rfl ?_
      refine e_Ok.if1 rfl (fun h16 => ?_) (fun h16 => ?_)
      · replace h16 : (0 : Int) = 0 := h16
        refine e_Ok.run (t' := (422, [(6, (0, 0)), (0, (1, 275)), (1, (0, w 328 (10000 * a + p))), (2, (0, w 329 (10000 * a + p))), (3, (0, p))], [(0, 1), (0, p), (1, 275)], w4)) 3 rfl ?_
        refine e_Ok.add (z := p + 1) rfl (by omega) (by omega) ?_
        refine e_Ok.callV rfl (by omega) rfl rfl rfl rfl (c_365 (by omega) q7T (by omega) ((q7 275 97 (by first | exact no_88_4 | (unfold mNu mNt; omega))).trans h97) (f := g + 1) (z := 1260 * t + 2 * g + 436) ((q7 276 (1260 * t + 428) (by unfold mNu mNt; omega)).trans hF) (by omega) (by omega)) (fun r17 w18 h19 => ?_)
        obtain ⟨rfl, hw18⟩ := h19
        have f20 : e_fr mTn w w18 := e_fr.up f15 hw18 (by unfold mTn; omega)
        have hT21 : e_Has mTy w18 := e_Has.upr q7T hw18 (nR_FRg t (g) (by omega) (by omega) (by omega)) (by omega)
        show e_Ok 20 elay ecode eI (d + 1) 376 (426, [(6, (0, 0)), (0, (1, 275)), (1, (0, w 328 (10000 * a + p))), (2, (0, w 329 (10000 * a + p))), (3, (0, p))], [], w18) _
        refine e_Ok.rets rfl rfl ?_
        have e22 : w18 276 5 = w 276 5 := (by rw [← hw18]; exact (e_up_ne _ _ (Or.inr (by omega))).trans ((q7 276 5 (by unfold mNu mNt; omega)).trans rfl))
        have hrn := runOk.fr (w' := w18) (fun c k q1 q2 => (by rw [← hw18]; exact (e_up_ne _ _ (Or.inl (by omega))).trans ((q7 c k (by unfold mNu mNt; omega)).trans rfl))) (fun i q1 q2 => ⟨(by rw [← hw18]; exact (e_up_ne _ _ (Or.inr (by omega))).trans ((q7 276 (1260 * t + 2 * i + 436) (by unfold mNu mNt; omega)).trans rfl)), (by rw [← hw18]; exact (e_up_ne _ _ (Or.inr (by omega))).trans ((q7 276 (1260 * t + 2 * i + 439) (by unfold mNu mNt; omega)).trans rfl))⟩) (by rw [← hw18]; exact (e_up_ne _ _ (Or.inr (by omega))).trans ((q7 276 (1260 * t + 428) (by unfold mNu mNt; omega)).trans rfl)) (by rw [← hw18]; exact (e_up_ne _ _ (Or.inr (by omega))).trans ((q7 276 (1260 * t + 429) (by unfold mNu mNt; omega)).trans rfl)) (fun k q1 q2 => (by rw [← hw18]; exact (e_up_ne _ _ (Or.inr (by omega))).trans ((q7 276 (1260 * t + k + 476) (by unfold mNu mNt; omega)).trans rfl))) (by omega) hru
        have erg : w18 330 (10000 * a + (p + 1)) = w 330 (10000 * a + p) := by rw [show 10000 * a + (p + 1) = 10000 * a + p + 1 by omega]; exact Eq.trans (by rw [← hw18]; exact (e_up_ne _ _ (Or.inl (by omega))).trans ((q7 330 (10000 * a + p + 1) (by first | exact no_88_5 | (unfold mNu mNt; omega))).trans rfl)) k8.1.2
        exact ⟨rfl, f20, hT21, by omega, (mMo.same (mMo.same hMo (e_Has.mo hT) (fun c k q => q7 c k (moK_nt q7z q))) (e_Has.mo q7T) (fun c k q => by rw [← hw18]; exact e_up_ne _ _ (q.elim (fun q => moK_now q (by omega)) (fun q => by omega)))), (mOr.fr hOr (by omega) (e_Has.orn hT) (e_Has.orw hT (by omega)) (fun k q => by unfold orK at q; exact (by rw [← hw18]; exact (e_up_ne _ _ (Or.inr (by omega))).trans ((q7 276 k (by unfold mNu mNt; omega)).trans rfl)))), (fun e => by have e1 : w18 276 (1260 * t + 424) = w 276 (1260 * t + 424) := (by rw [← hw18]; exact (e_up_ne _ _ (Or.inr (by omega))).trans ((q7 276 (1260 * t + 424) (by unfold mNu mNt; omega)).trans rfl)); have e2 : w18 276 (1260 * t + 425) = w 276 (1260 * t + 425) := (by rw [← hw18]; exact (e_up_ne _ _ (Or.inr (by omega))).trans ((q7 276 (1260 * t + 425) (by unfold mNu mNt; omega)).trans rfl)); have := hW (by omega); omega), (fun e => by exfalso; omega), (by rw [← hw18]; exact (e_up_ne _ _ (Or.inr (by omega))).trans ((q7 276 (1260 * t + 417) (by unfold mNu mNt; omega)).trans rfl)), (by rw [← hw18]; exact (e_up_ne _ _ (Or.inl (by omega))).trans ((q7 275 99 (by first | exact no_88_4 | (unfold mNu mNt; omega))).trans rfl)), (fun v v1 v2 v3 hv => Decidable.byCases (p := v = q7u) (fun e => by rw [e]; exact tkOk.new (hG a ha.1 ha.2) ha hi15a (fun c k q1 q2 => (by rw [← hw18]; exact (e_up_ne _ _ (Or.inl (by omega))).trans ((q7 c k (by unfold mNu mNt; omega)).trans rfl))) (Eq.trans (by rw [← hw18]; exact (e_up_ne _ _ (Or.inr (by omega))).trans rfl) q72) (Eq.trans (by rw [← hw18]; exact (e_up_ne _ _ (Or.inr (by omega))).trans rfl) q73) (Eq.trans (by rw [← hw18]; exact (e_up_ne _ _ (Or.inr (by omega))).trans rfl) q74) (Eq.trans (by rw [← hw18]; exact (e_up_ne _ _ (Or.inr (by omega))).trans rfl) q75) (Eq.trans (by rw [← hw18]; exact (e_up_ne _ _ (Or.inr (by omega))).trans rfl) q76)) (fun e => tkOk.hop hG hv (show e_fr (mSr t q7u) w w18 from (e_fr.up (e_fr.mono q7 (fun c k q => Or.inr q)) hw18 (Or.inl (by unfold mLv; omega)))) (fun c k q => sr_tk ht q7z ⟨v1, v2⟩ v3 e q))), Or.inr (Or.inr ⟨(by rw [← hw18]; exact (e_up_ne _ _ (Or.inl (by omega))).trans ((q7 275 100 (by first | exact no_88_4 | (unfold mNu mNt; omega))).trans rfl)), (Eq.trans (by rw [← hw18]; exact (e_up_ne _ _ (Or.inr (by omega))).trans ((q7 276 (1260 * t + 416) (by unfold mNu mNt; omega)).trans rfl)) h416), Eq.trans (show w18 275 102 = w 275 102 from (by rw [← hw18]; exact (e_up_ne _ _ (Or.inl (by omega))).trans ((q7 275 102 (by first | exact no_88_4 | (unfold mNu mNt; omega))).trans rfl))) (by omega), by omega, g, p + 1, bs, ow, runOk.at hrn (by omega) (by rw [← hw18]; exact e_up_eq _ _ _ _) erg, by omega, by omega, Or.inl (by omega)⟩)⟩
      · replace h16 : (0 : Int) ≠ 0 := by have q : ¬ ((0 : Int) = 0) := h16; omega
        exfalso; omega
theorem no_88_6 {t : Int} {a : Int} : ¬ mSm t a 275 99 := by unfold mSm mMv mLv mOt mGr; omega
theorem c_376_u {d : Nat} (hd : 35 ≤ d) {w : eW} (hT : e_Has mTy w) (hA : mAc w) (hCf : mCf w) (hMo : mMo w (-1)) (hOr : mOr w (w 275 40)) {t a g : Int} (ht : 0 ≤ t ∧ t ≤ 15) (ha : 0 ≤ a ∧ a ≤ 3) (h96 : w 275 96 = t) (h97 : w 275 97 = 1260 * t + 416) (h98 : w 275 98 = a) {n nt nw : Int} {dl sg pi en : Int → Int} {an br : Int → Int → Prop} {bs ow : Int → Int} (hC : cOk w a n nt nw dl sg pi en an br) {p : Int} (hP : topOk w a t g p n nt nw dl sg pi an br bs ow) (hE : w 276 5 ≤ 2147482000) (h102 : w 275 102 = dl p) (hst : e_kn w 345 0 (dl p - 1)) (hdl : sg p = 0 → dl p = 0) (h416 : w 276 (1260 * t + 416) = 1) (hW : 0 ≤ w 276 (1260 * t + 424) → w 276 (1260 * t + 425) < w 338 a) {G : Int → Gh} (hG : gAll w G) (hop : 31 ≤ w 328 (10000 * a + p)) : e_Ok 20 elay ecode eI d 376 (0, [(0, (1, 275)), (1, (0, w 328 (10000 * a + p))), (2, (0, w 329 (10000 * a + p))), (3, (0, p))], [], w) (fun r' w' => r' = [] ∧ e_fr mTn w w' ∧ e_Has mTy w' ∧ (w 276 5 ≤ w' 276 5 ∧ w' 276 5 ≤ w 276 5 + 3) ∧ mMo w' (-1) ∧ mOr w' (w 275 40) ∧ (0 ≤ w' 276 (1260 * t + 424) → w' 276 (1260 * t + 425) < w 338 a) ∧ (sg p = 0 → ∀ k, (352 ≤ k ∧ k ≤ 415) ∨ k = 1260 * t + 424 ∨ k = 1260 * t + 426 → w' 276 k = w 276 k) ∧ w' 276 (1260 * t + 417) = w 276 (1260 * t + 417) ∧ w' 275 99 = w 275 99 ∧ (∀ v, 0 ≤ v → v ≤ 15 → v ≠ t → tkOk w G v → tkOk w' G v) ∧ ((w' 275 100 = 1 ∧ (w' 276 (1260 * t + 416) = 6 ∨ w' 276 (1260 * t + 416) = 7)) ∨ (w' 275 100 = 1 ∧ (2 ≤ w' 276 (1260 * t + 416) ∧ w' 276 (1260 * t + 416) ≤ 5) ∧ ∃ (g' p' : Int) (bs' ow' : Int → Int), topOk w' a t g' p' n nt nw dl sg pi an br bs' ow' ∧ dl p' = 0) ∨ (w' 275 100 = w 275 100 ∧ w' 276 (1260 * t + 416) = 1 ∧ w' 275 102 = 0 ∧ (w' 276 5 ≤ w 276 5 + 1 ∧ (sg p = 0 → w' 276 5 = w 276 5)) ∧ ∃ (g' p' : Int) (bs' ow' : Int → Int), topOk w' a t g' p' n nt nw dl sg pi an br bs' ow' ∧ dl p' = 0 ∧ sg p' = 0 ∧ (sg p = 1 ∨ (g' ≤ g ∧ (g' = g → p < p')) ∨ w 328 (10000 * a + p') = 30)))) := by
  by_cases h39 : w 328 (10000 * a + p) = 39
  · exact c_376_r hd hT hA hCf hMo hOr ht ha h96 h97 h98 hC hP hE h102 hst hdl h416 hW hG h39
  · refine (c_376 hd hT hA hCf hMo hOr ht ha h96 h97 h98 hC hP hE h102 hst hdl h416 hW hop h39).imp (fun r' w' h => ?_)
    obtain ⟨h1, h2, h3, h4, h5, h6, h7, h8, h9⟩ := h
    exact ⟨h1, h2.mono (fun c k q => sm_tn ht ha q), h3, h4, h5, h6, h7, h8, h2 _ _ (by unfold mSm mMv mLv mOt mGr; omega), h2 275 99 (by first | exact no_88_6 | (unfold mSm mMv mLv mOt mGr; omega)), fun v v1 v2 v3 hv => tkOk.hop hG hv h2 (fun c k q => sm_tk ht ha ⟨v1, v2⟩ v3 q), h9⟩
end
