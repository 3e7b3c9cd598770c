-- part 87z
section
noncomputable section
theorem Hid.upn {w w' : eW} {c k v c' k' z : Int} (h : e_up w c k v = w') (n : c' ≠ c ∨ k' ≠ k) (u : Hid (w c' k' = z)) : Hid (w' c' k' = z) := show w' c' k' = z from e_uq h n (show w c' k' = z from u)
theorem Hid.upe {w w' : eW} {c k v : Int} (h : e_up w c k v = w') : Hid (w' c k = v) := show w' c k = v from e_ue h
end
end
-- part 88
section
noncomputable section
def mNu (z c k : Int) : Prop := mNt z c k
def mTn (c k : Int) : Prop := (c = 275 ∧ (k = 99 ∨ k = 100 ∨ k = 102)) ∨ c = 326 ∨ c = 327 ∨ c = 321 ∨ c = 322 ∨ c = 345 ∨ (c = 276 ∧ (k = 5 ∨ k = 6 ∨ (16 ≤ k ∧ k ≤ 223) ∨ (352 ≤ k ∧ k < 20836) ∨ 20868 ≤ k))
def mSr (t u c k : Int) : Prop := mLv t c k ∨ mNt u c k
theorem sm_tn {t a c k : Int} (ht : 0 ≤ t ∧ t ≤ 15) (ha : 0 ≤ a ∧ a ≤ 3) (q : mSm t a c k) : mTn c k := by
  rcases q with (q | q) | q | q
  · unfold mLv at q; unfold mTn; omega
  · unfold mTn; omega
  · rcases q with q | q | q | q | q
    · unfold mTn; omega
    · unfold mTn; omega
    · unfold mTn; omega
    · rcases q with q | q | ⟨e, q⟩
      · unfold mTn; omega
      · unfold mTn; omega
      · rcases q with q | q | q | q
        · unfold mTn; omega
        · unfold mTn; omega
        · unfold mTn; omega
        · unfold mTn; omega
    · obtain ⟨e, q⟩ := q
      rcases q with q | q | q | q | q | q | q | q | q | q <;> (unfold mTn; omega)
  · unfold mTn; omega
theorem bg_tn {t c k : Int} (ht : 0 ≤ t ∧ t ≤ 15) (q : mBg t c k) : mTn c k := by unfold mBg mLv at q; unfold mTn; omega
theorem rk_tn {t c k : Int} (ht : 0 ≤ t ∧ t ≤ 15) (q : mRk t c k) : mTn c k := by unfold mRk mLv at q; unfold mTn; omega
theorem sr_tn {t u c k : Int} (ht : 0 ≤ t ∧ t ≤ 15) (hu : 0 ≤ u ∧ u ≤ 15) (q : mSr t u c k) : mTn c k := by
  rcases q with q | q
  · unfold mLv at q; unfold mTn; omega
  · unfold mNt at q; unfold mTn; omega
theorem lv_tk {t v c k : Int} (ht : 0 ≤ t ∧ t ≤ 15) (hv : 0 ≤ v ∧ v ≤ 15) (hn : v ≠ t) (q : mLv t c k) : ¬ (328 ≤ c ∧ c ≤ 338) ∧ (c = 276 → k ≠ 1260 * v + 416 ∧ ¬ tkK v k) := by
  refine ⟨by unfold mLv at q; omega, fun e => ⟨by unfold mLv at q; omega, fun h => ?_⟩⟩
  unfold tkK at h
  unfold mLv at q
  omega
theorem sm_tk {t a v c k : Int} (ht : 0 ≤ t ∧ t ≤ 15) (ha : 0 ≤ a ∧ a ≤ 3) (hv : 0 ≤ v ∧ v ≤ 15) (hn : v ≠ t) (q : mSm t a c k) : ¬ (328 ≤ c ∧ c ≤ 338) ∧ (c = 276 → k ≠ 1260 * v + 416 ∧ ¬ tkK v k) := by
  rcases q with (q | q) | q | q
  · exact lv_tk ht hv hn q
  · exact ⟨by omega, fun e => ⟨by omega, fun h => by unfold tkK at h; omega⟩⟩
  · exact ⟨by unfold mOt mGr at q; omega, fun e => ⟨by unfold mOt mGr at q; omega, fun h => by unfold tkK at h; unfold mOt mGr at q; omega⟩⟩
  · exact ⟨by omega, fun e => ⟨by omega, fun h => by unfold tkK at h; omega⟩⟩
theorem bg_tk {t v c k : Int} (ht : 0 ≤ t ∧ t ≤ 15) (hv : 0 ≤ v ∧ v ≤ 15) (hn : v ≠ t) (q : mBg t c k) : ¬ (328 ≤ c ∧ c ≤ 338) ∧ (c = 276 → k ≠ 1260 * v + 416 ∧ ¬ tkK v k) := by
  rcases q with q | q | q
  · exact lv_tk ht hv hn q
  · exact ⟨by omega, fun e => by omega⟩
  · exact ⟨by omega, fun e => ⟨by omega, fun h => by unfold tkK at h; omega⟩⟩
theorem rk_tk {t v c k : Int} (ht : 0 ≤ t ∧ t ≤ 15) (hv : 0 ≤ v ∧ v ≤ 15) (hn : v ≠ t) (q : mRk t c k) : ¬ (328 ≤ c ∧ c ≤ 338) ∧ (c = 276 → k ≠ 1260 * v + 416 ∧ ¬ tkK v k) := by
  rcases q with q | q | q
  · exact lv_tk ht hv hn q
  · exact ⟨by omega, fun e => by omega⟩
  · exact ⟨by omega, fun e => by omega⟩
theorem sr_tk {t u v c k : Int} (ht : 0 ≤ t ∧ t ≤ 15) (hu : 0 ≤ u ∧ u ≤ 15) (hv : 0 ≤ v ∧ v ≤ 15) (hn : v ≠ t) (hn2 : v ≠ u) (q : mSr t u c k) : ¬ (328 ≤ c ∧ c ≤ 338) ∧ (c = 276 → k ≠ 1260 * v + 416 ∧ ¬ tkK v k) := by
  rcases q with q | q
  · exact lv_tk ht hv hn q
  · unfold mNt at q
    exact ⟨by omega, fun e => ⟨by omega, fun h => by unfold tkK at h; omega⟩⟩
theorem moK_nt {u c k : Int} (hu : 0 ≤ u ∧ u ≤ 15) (q : moK c k ∨ (c = 276 ∧ 16 ≤ k ∧ k < 160)) : ¬ mNu u c k := by unfold moK at q; unfold mNu mNt; omega
theorem c_378_r {d : Nat} (hd : 31 ≤ d) {w : eW} (hT : e_Has mTy w) {a q : Int} (ha : 0 ≤ a ∧ a ≤ 3) (h98 : w 275 98 = a) (hq : 0 ≤ q ∧ q ≤ 31) (hent : 0 ≤ w 337 (32 * a + q) ∧ w 337 (32 * a + q) ≤ 9999) : e_Ok 20 elay ecode eI d 378 (0, [(0, (1, 275)), (1, (0, 39)), (2, (0, q))], [], w) (fun r w' => ∃ z : Int, r = [(0, z)] ∧ ((z = 10 ∧ w = w') ∨ (z = 0 ∧ ∃ u : Int, (0 ≤ u ∧ u ≤ 15) ∧ (w 276 (1260 * u + 416) = 0 ∨ w 276 (1260 * u + 416) = 6) ∧ e_fr (mNt u) w w' ∧ e_Has mTy w' ∧ w' 276 (1260 * u + 416) = 1 ∧ w' 276 (1260 * u + 417) = a ∧ w' 276 (1260 * u + 424) = -1 ∧ w' 276 (1260 * u + 428) = 1 ∧ w' 276 (1260 * u + 429) = 0 ∧ w' 276 (1260 * u + 436) = w 337 (32 * a + q) ∧ w' 276 (1260 * u + 437) = 0))) := by
  obtain ⟨d, rfl⟩ : ∃ e, d = e + 1 := ⟨d - 1, by omega⟩
  refine e_Ok.ps1 (x := (0, 39)) (q := 1) 1 rfl ?_
  have hs2 : ∀ x : Int, 39 ≤ x ∧ x ≤ 39 → (x = 39) := fun x h => by omega
  obtain h1 := hs2 (39) (by omega)
  · refine e_Ok.sw (tg := 148) rfl (by rw [h1]; rfl) ?_
    refine e_Ok.run (t' := (150, [(0, (1, 275)), (1, (0, 39)), (2, (0, q))], [(1, 275), (1, 275)], w)) 2 rfl ?_
    refine e_Ok.getf (z := a) rfl (el_o rfl) rfl (ef_o rfl) h98 (by omega) ?_
    refine e_Ok.ps1 (x := (0, q)) (q := 154) 1 rfl ?_
    refine e_Ok.callV rfl (e_dq hd rfl) rfl rfl rfl rfl (c_359 (e_dq hd rfl) hT (by omega) (by omega) hent (e_Has.get hT (c := 276) (k := 0) (lo := 0) (hi := 6000) (mt_o rfl) (by decide)).2) (fun r3 w4 h5 => ?_)
    obtain ⟨z6, rfl, q7h⟩ := h5
    obtain ⟨rfl, rfl⟩ | ⟨q7z, q7s, q7, q7T, q71, q72, q73, q74, q75, q76, q77⟩ := q7h
    · refine e_Ok.nrm (q := 157) (st' := [(0, (-1))]) rfl rfl ?_
      refine e_Ok.if1 rfl (fun h8 => ?_) (fun h8 => ?_)
      · replace h8 : ((-1) : Int) ≥ 0 := h8
        exfalso; omega
      · replace h8 : ((-1) : Int) < 0 := Int.not_le.mp (show ¬ (((-1) : Int) ≥ 0) from h8)
        refine e_Ok.ps1 (x := (0, 10)) (q := 166) 2 rfl ?_
        refine e_Ok.rets rfl rfl ?_
        exact ⟨_, rfl, Or.inl ⟨rfl, rfl⟩⟩
    · refine e_Ok.nrm (q := 157) (st' := [(0, z6)]) rfl rfl ?_
      refine e_Ok.if1 rfl (fun h9 => ?_) (fun h9 => ?_)
      · replace h9 : (z6 : Int) ≥ 0 := h9
        refine e_Ok.ps1 (x := (0, 0)) (q := 166) 1 rfl ?_
        refine e_Ok.rets rfl rfl ?_
        exact ⟨_, rfl, Or.inr ⟨rfl, _, q7z, q7s, q7, q7T, q71, q72, q73, q74, q75, q76, q77⟩⟩
      · replace h9 : (z6 : Int) < 0 := Int.not_le.mp (show ¬ ((z6 : Int) ≥ 0) from h9)
        exfalso; omega
theorem no_88_0 {t : Int} (ht : 0 ≤ t ∧ t ≤ 15) : ¬ mLv t 276 (1260 * t + 424) := by unfold mLv; omega
theorem no_88_1 {t : Int} (ht : 0 ≤ t ∧ t ≤ 15) : ¬ mLv t 276 (1260 * t + 425) := by unfold mLv; omega
theorem no_88_2 {t : Int} (ht : 0 ≤ t ∧ t ≤ 15) : ¬ mLv t 276 (1260 * t + 417) := by unfold mLv; omega
theorem no_88_3 {t : Int} : ¬ mLv t 275 99 := by unfold mLv; omega
theorem no_88_4 {z : Int} {k : Int} : ¬ mNu z 275 k := by unfold mNu mNt; omega
theorem no_88_5 {z : Int} {k : Int} : ¬ mNu z 330 k := by unfold mNu mNt; omega
set_option maxHeartbeats 4000000 in
theorem c_376_r {d : Nat} (hd : 35 ≤ d) {w : eW} (hT : e_Has mTy w) (hA : mAc w) (hCf : mCf w) (hMo : mMo w (-1)) (hOr : mOr w (w 275 40)) {t a g : Int} (ht : 0 ≤ t ∧ t ≤ 15) (ha : 0 ≤ a ∧ a ≤ 3) (h96 : w 275 96 = t) (h97 : w 275 97 = 1260 * t + 416) (h98 : w 275 98 = a) {n nt nw : Int} {dl sg pi en : Int → Int} {an br : Int → Int → Prop} {bs ow : Int → Int} (hC : cOk w a n nt nw dl sg pi en an br) {p : Int} (hP : topOk w a t g p n nt nw dl sg pi an br bs ow) (hE : w 276 5 ≤ 2147482000) (h102 : w 275 102 = dl p) (hst : e_kn w 345 0 (dl p - 1)) (hdl : sg p = 0 → dl p = 0) (h416 : w 276 (1260 * t + 416) = 1) (hW : 0 ≤ w 276 (1260 * t + 424) → w 276 (1260 * t + 425) < w 338 a) {G : Int → Gh} (hG : gAll w G) (hop : w 328 (10000 * a + p) = 39) : e_Ok 20 elay ecode eI d 376 (0, [(0, (1, 275)), (1, (0, w 328 (10000 * a + p))), (2, (0, w 329 (10000 * a + p))), (3, (0, p))], [], w) (fun r' w' => r' = [] ∧ e_fr mTn w w' ∧ e_Has mTy w' ∧ (w 276 5 ≤ w' 276 5 ∧ w' 276 5 ≤ w 276 5 + 3) ∧ mMo w' (-1) ∧ mOr w' (w 275 40) ∧ (0 ≤ w' 276 (1260 * t + 424) → w' 276 (1260 * t + 425) < w 338 a) ∧ (sg p = 0 → ∀ k, (352 ≤ k ∧ k ≤ 415) ∨ k = 1260 * t + 424 ∨ k = 1260 * t + 426 → w' 276 k = w 276 k) ∧ w' 276 (1260 * t + 417) = w 276 (1260 * t + 417) ∧ w' 275 99 = w 275 99 ∧ (∀ v, 0 ≤ v → v ≤ 15 → v ≠ t → tkOk w G v → tkOk w' G v) ∧ ((w' 275 100 = 1 ∧ (w' 276 (1260 * t + 416) = 6 ∨ w' 276 (1260 * t + 416) = 7)) ∨ (w' 275 100 = 1 ∧ (2 ≤ w' 276 (1260 * t + 416) ∧ w' 276 (1260 * t + 416) ≤ 5) ∧ ∃ (g' p' : Int) (bs' ow' : Int → Int), topOk w' a t g' p' n nt nw dl sg pi an br bs' ow' ∧ dl p' = 0) ∨ (w' 275 100 = w 275 100 ∧ w' 276 (1260 * t + 416) = 1 ∧ w' 275 102 = 0 ∧ (w' 276 5 ≤ w 276 5 + 1 ∧ (sg p = 0 → w' 276 5 = w 276 5)) ∧ ∃ (g' p' : Int) (bs' ow' : Int → Int), topOk w' a t g' p' n nt nw dl sg pi an br bs' ow' ∧ dl p' = 0 ∧ sg p' = 0 ∧ (sg p = 1 ∨ (g' ≤ g ∧ (g' = g → p < p')) ∨ w 328 (10000 * a + p') = 30)))) := by
  obtain ⟨d, rfl⟩ : ∃ e, d = e + 1 := ⟨d - 1, by omega⟩
  obtain ⟨hpn, hpc, hru⟩ := id hP
  obtain ⟨hg, hF, hlow, hrr, hPn, hch, hpe⟩ := id hru
  have hCn := hC.1
  have hins := hC.2.1 p hpn.1 hpn.2
  have hbg := hlow.2.1 g (by omega) (by omega)
  have hpen := hins.1.2.2.2.1
  have hpib := hC.2.2.2.1.2.1 _ hrr.1 hrr.2
  obtain ⟨hi0, hi1, hi2, hi3, hi4, hi5, hi6, hi7, hi8, hi9, hi10, hi11, hi12, hi13, hi14, hi15, hi16, hi17, hi18, hi19⟩ := id hins
  replace hi1 := (show Hid _ from hi1)
  replace hi2 := (show Hid _ from hi2)
  replace hi3 := (show Hid _ from hi3)
  replace hi4 := (show Hid _ from hi4)
  replace hi5 := (show Hid _ from hi5)
  replace hi6 := (show Hid _ from hi6)
  replace hi7 := (show Hid _ from hi7)
  replace hi8 := (show Hid _ from hi8)
  replace hi9 := (show Hid _ from hi9)
  replace hi10 := (show Hid _ from hi10)
  replace hi11 := (show Hid _ from hi11)
  replace hi12 := (show Hid _ from hi12)
  replace hi13 := (show Hid _ from hi13)
  replace hi14 := (show Hid _ from hi14)
  replace hi15 := (show Hid _ from hi15)
  replace hi16 := (show Hid _ from hi16)
  replace hi17 := (show Hid _ from hi17)
  replace hi18 := (show Hid _ from hi18)
  replace hi19 := (show Hid _ from hi19)
  have hpp := e_Has.get hT (c := 275) (k := 40) (lo := 0) (hi := 32) (mt_o rfl) (by decide)
  have hrn_ := e_Has.get hT (c := 338) (k := a) (lo := 0) (hi := 32) (mt_o rfl) (by decide)
  have har := e_Has.get hT (c := 329) (k := 10000 * a + p) (lo := -2147483648) (hi := 2147483647) (mt_o rfl) (by decide)
  have htm := e_Has.get hT (c := 276) (k := 0) (lo := 0) (hi := 6000) (mt_o rfl) (by decide)
  have hi15a := hi15.out (by omega)
  have k8 := hi8.out (by omega)
  unfold iS iFT at k8
  have k14 := hi14.out (by omega)
  refine e_Ok.run (t' := (1, [(0, (1, 275)), (1, (0, w 328 (10000 * a + p))), (2, (0, w 329 (10000 * a + p))), (3, (0, p))], [(0, w 328 (10000 * a + p))], w)) 1 rfl ?_
  have hs2 : ∀ x : Int, 39 ≤ x ∧ x ≤ 39 → (x = 39) := fun x h => by omega
  obtain h1 := hs2 (w 328 (10000 * a + p)) (by omega)
  · refine e_Ok.sw (tg := 399) rfl (by rw [h1]; rfl) ?_
    refine e_Ok.run (t' := (402, [(0, (1, 275)), (1, (0, w 328 (10000 * a + p))), (2, (0, w 329 (10000 * a + p))), (3, (0, p))], [(0, w 329 (10000 * a + p)), (0, w 328 (10000 * a + p)), (1, 275)], w)) 3 rfl ?_
    have hrt := hC.2.2.2.2.2.2 (w 329 (10000 * a + p)) hi15a.1 hi15a.2
    unfold tgt at hrt
    refine e_Ok.callV rfl (e_dq hd rfl) rfl rfl rfl rfl ((show e_Ok 20 elay ecode eI _ 378 (0, [(0, (1, 275)), (1, (0, w 328 (10000 * a + p))), (2, (0, w 329 (10000 * a + p)))], [], w) _ by rw [hop]; exact c_378_r (e_dq hd rfl) hT ha h98 (by omega) (by omega))) (fun r3 w4 h5 => ?_)
    obtain ⟨z6, rfl, q7h⟩ := h5
    obtain ⟨rfl, rfl⟩ | ⟨rfl, q7u, ⟨q7z, q7s, q7, q7T, q71, q72, q73, q74, q75, q76, q77⟩⟩ := q7h
    · refine e_Ok.nrm (q := 405) (st' := [(0, 10)]) rfl rfl ?_
      refine e_Ok.run (t' := (409, [(6, (0, 10)), (0, (1, 275)), (1, (0, w 328 (10000 * a + p))), (2, (0, w 329 (10000 * a + p))), (3, (0, p))], [(0, 10)], w)) 2 rfl ?_
      refine e_Ok.if1 rfl (fun h8 => ?_) (fun h8 => ?_)
      · replace h8 : (10 : Int) = 0 := h8
        exfalso; omega
      · replace h8 : (10 : Int) ≠ 0 := (show ¬ ((10 : Int) = 0) from h8)
        refine e_Ok.ps2 (x := (0, 10)) (y := (1, 275)) (q := 415) 2 rfl ?_
        refine e_Ok.callV rfl (e_dq hd rfl) rfl rfl rfl rfl (c_369 (e_dq hd rfl) hT (by omega) (by omega) h96 h97 h98 (cOk.fr (fun c k q1 q2 => rfl) hC) (runOk.at (runOk.fr (w' := w) (fun c k q1 q2 => rfl) (fun i q1 q2 => ⟨rfl, rfl⟩) rfl rfl (fun k q1 q2 => rfl) (by omega) hru) (by omega) hpc rfl) (by omega) (by omega)) (fun r9 w10 h11 => ?_)
        obtain ⟨rfl, ⟨q12, q12S⟩, q12T, q12n, q12d, q12c⟩ := h11
        refine e_Ok.nrm (q := 418) (st' := []) rfl rfl ?_
        refine e_Ok.rets rfl rfl ?_
        have e14 : w10 276 5 = w10 276 5 := rfl
        exact ⟨rfl, (show e_fr mTn w w10 from e_fr.trans (e_fr.refl w) (e_fr.mono q12 (fun c k q => by unfold mLv at q; unfold mTn; omega))), q12T, by omega, (mMo.rel hMo (e_Has.mo hT) hCf q12S (fun c k q => q12 c k (moK_lv ht q))), (mOr.fr hOr (by omega) (e_Has.orn hT) (e_Has.orw hT (by omega)) (fun k q => by unfold orK at q; exact ((q12 276 k (by unfold mLv; omega)).trans rfl))), (fun e => by have e1 : w10 276 (1260 * t + 424) = w 276 (1260 * t + 424) := ((q12 276 (1260 * t + 424) (by first | exact no_88_0 (by omega) | (unfold mLv; omega))).trans rfl); have e2 : w10 276 (1260 * t + 425) = w 276 (1260 * t + 425) := ((q12 276 (1260 * t + 425) (by first | exact no_88_1 (by omega) | (unfold mLv; omega))).trans rfl); have := hW (by omega); omega), (fun e => by exfalso; omega), ((q12 276 (1260 * t + 417) (by first | exact no_88_2 (by omega) | (unfold mLv; omega))).trans rfl), ((q12 275 99 (by first | exact no_88_3 | (unfold mLv; omega))).trans rfl), (fun v v1 v2 v3 hv => tkOk.hop hG hv q12 (fun c k q => lv_tk ht ⟨v1, v2⟩ v3 q)), q12c.elim (fun h => Or.inl h) (fun h => Or.inr (Or.inr ⟨h.1, h.2.1.trans h416, q12d, by have := h.2.2.1; omega, by obtain ⟨g2, p2, b2, o2, k21, k22, k23, k24, k25⟩ := h.2.2.2; exact ⟨g2, p2, b2, o2, k23, k24, k25, Or.inr (Or.inl ⟨k21, k22⟩)⟩⟩))⟩
    · refine e_Ok.nrm (q := 405) (st' := [(0, 0)]) rfl rfl ?_
      have hut : q7u ≠ t := fun e => by rw [e] at q7s; omega
      replace q7 : e_fr (mNu q7u) w w4 := q7
      refine e_Ok.run (t' := (409, [(6, (0, 0)), (0, (1, 275)), (1, (0, w 328 (10000 * a + p))), (2, (0, w 329 (10000 * a + p))), (3, (0, p))], [(0, 0)], w4)) 2 rfl ?_
      refine e_Ok.if1 rfl (fun h16 => ?_) (fun h16 => ?_)
      · replace h16 : (0 : Int) = 0 := h16
        refine e_Ok.ps3 (x := (0, 1)) (y := (0, p)) (z := (1, 275)) (q := 422) 3 rfl ?_
        refine e_Ok.add (z := p + 1) rfl rfl (by omega) ?_
        refine e_Ok.callV rfl (e_dq hd rfl) rfl rfl rfl rfl (c_365 (e_dq hd rfl) q7T (by omega) ((q7 275 97 (by first | exact no_88_4 | (unfold mNu mNt; omega))).trans h97) (f := g + 1) (z := 1260 * t + 2 * g + 436) ((q7 276 (1260 * t + 428) (by unfold mNu mNt; omega)).trans hF) (by omega) (by omega)) (fun r17 w18 h19 => ?_)
        obtain ⟨rfl, hw18⟩ := h19
        have hT21 : e_Has mTy w18 := e_Has.upr q7T hw18 (nR_FRg t (g) (by omega) (by omega) (by omega)) (by omega)
        refine e_Ok.nrm (q := 426) (st' := []) rfl rfl ?_
        refine e_Ok.rets rfl rfl ?_
        have e22 : w18 276 5 = w 276 5 := (e_uq hw18 (Or.inr (by omega)) ((q7 276 5 (by unfold mNu mNt; omega)).trans rfl))
        have hrn := runOk.fr (w' := w18) (fun c k q1 q2 => (e_uq hw18 (Or.inl (by omega)) ((q7 c k (by unfold mNu mNt; omega)).trans rfl))) (fun i q1 q2 => ⟨(e_uq hw18 (Or.inr (by omega)) ((q7 276 (1260 * t + 2 * i + 436) (by unfold mNu mNt; omega)).trans rfl)), (e_uq hw18 (Or.inr (by omega)) ((q7 276 (1260 * t + 2 * i + 439) (by unfold mNu mNt; omega)).trans rfl))⟩) (e_uq hw18 (Or.inr (by omega)) ((q7 276 (1260 * t + 428) (by unfold mNu mNt; omega)).trans rfl)) (e_uq hw18 (Or.inr (by omega)) ((q7 276 (1260 * t + 429) (by unfold mNu mNt; omega)).trans rfl)) (fun k q1 q2 => (e_uq hw18 (Or.inr (by omega)) ((q7 276 (1260 * t + k + 476) (by unfold mNu mNt; omega)).trans rfl))) (by omega) hru
        have erg : w18 330 (10000 * a + (p + 1)) = w 330 (10000 * a + p) := by rw [show 10000 * a + (p + 1) = 10000 * a + p + 1 by omega]; exact Eq.trans (e_uq hw18 (Or.inl (by first | decide | omega)) ((q7 330 (10000 * a + p + 1) (by first | exact no_88_5 | (unfold mNu mNt; omega))).trans rfl)) k8.1.2
        exact ⟨rfl, (show e_fr mTn w w18 from e_fr.up (show e_fr mTn w w4 from e_fr.trans (e_fr.refl w) (e_fr.mono q7 (fun c k q => by unfold mNu mNt at q; unfold mTn; omega))) hw18 (by first | exact Or.inr (Or.inr (Or.inr (Or.inr (Or.inr (Or.inr ⟨rfl, Or.inr (Or.inr (Or.inr (Or.inl ⟨(by omega), (by omega)⟩)))⟩))))) | (unfold mTn; omega))), hT21, by omega, (mMo.same (mMo.same hMo (e_Has.mo hT) (fun c k q => q7 c k (moK_nt q7z q))) (e_Has.mo q7T) (fun c k q => by rw [← hw18]; exact e_up_ne _ _ (q.elim (fun q => moK_now q (by omega)) (fun q => by omega)))), (mOr.fr hOr (by omega) (e_Has.orn hT) (e_Has.orw hT (by omega)) (fun k q => by unfold orK at q; exact (e_uq hw18 (Or.inr (by omega)) ((q7 276 k (by unfold mNu mNt; omega)).trans rfl)))), (fun e => by have e1 : w18 276 (1260 * t + 424) = w 276 (1260 * t + 424) := (e_uq hw18 (Or.inr (by omega)) ((q7 276 (1260 * t + 424) (by unfold mNu mNt; omega)).trans rfl)); have e2 : w18 276 (1260 * t + 425) = w 276 (1260 * t + 425) := (e_uq hw18 (Or.inr (by omega)) ((q7 276 (1260 * t + 425) (by unfold mNu mNt; omega)).trans rfl)); have := hW (by omega); omega), (fun e => by exfalso; omega), (e_uq hw18 (Or.inr (by omega)) ((q7 276 (1260 * t + 417) (by unfold mNu mNt; omega)).trans rfl)), (e_uq hw18 (Or.inl (by omega)) ((q7 275 99 (by first | exact no_88_4 | (unfold mNu mNt; omega))).trans rfl)), (fun v v1 v2 v3 hv => Decidable.byCases (p := v = q7u) (fun e => by rw [e]; exact tkOk.new (hG a ha.1 ha.2) ha hi15a (fun c k q1 q2 => (e_uq hw18 (Or.inl (by omega)) ((q7 c k (by unfold mNu mNt; omega)).trans rfl))) (Eq.trans (e_uq hw18 (Or.inr (by omega)) rfl) q72) (Eq.trans (e_uq hw18 (Or.inr (by omega)) rfl) q73) (Eq.trans (e_uq hw18 (Or.inr (by omega)) rfl) q74) (Eq.trans (e_uq hw18 (Or.inr (by omega)) rfl) q75) (Eq.trans (e_uq hw18 (Or.inr (by omega)) rfl) q76)) (fun e => tkOk.hop hG hv (show e_fr (mSr t q7u) w w18 from (e_fr.up (e_fr.mono q7 (fun c k q => Or.inr q)) hw18 (Or.inl (by unfold mLv; omega)))) (fun c k q => sr_tk ht q7z ⟨v1, v2⟩ v3 e q))), Or.inr (Or.inr ⟨(e_uq hw18 (Or.inl (by omega)) ((q7 275 100 (by first | exact no_88_4 | (unfold mNu mNt; omega))).trans rfl)), (Eq.trans (e_uq hw18 (Or.inr (by omega)) ((q7 276 (1260 * t + 416) (by unfold mNu mNt; omega)).trans rfl)) h416), Eq.trans (show w18 275 102 = w 275 102 from (e_uq hw18 (Or.inl (by omega)) ((q7 275 102 (by first | exact no_88_4 | (unfold mNu mNt; omega))).trans rfl))) (by omega), by omega, g, p + 1, bs, ow, runOk.at hrn (by omega) (e_ue hw18) erg, by omega, by omega, Or.inl (by omega)⟩)⟩
      · replace h16 : (0 : Int) ≠ 0 := (show ¬ ((0 : Int) = 0) from h16)
        exfalso; omega
theorem no_88_6 {t : Int} {a : Int} : ¬ mSm t a 275 99 := by unfold mSm mMv mLv mOt mGr; omega
theorem c_376_u {d : Nat} (hd : 35 ≤ d) {w : eW} (hT : e_Has mTy w) (hA : mAc w) (hCf : mCf w) (hMo : mMo w (-1)) (hOr : mOr w (w 275 40)) {t a g : Int} (ht : 0 ≤ t ∧ t ≤ 15) (ha : 0 ≤ a ∧ a ≤ 3) (h96 : w 275 96 = t) (h97 : w 275 97 = 1260 * t + 416) (h98 : w 275 98 = a) {n nt nw : Int} {dl sg pi en : Int → Int} {an br : Int → Int → Prop} {bs ow : Int → Int} (hC : cOk w a n nt nw dl sg pi en an br) {p : Int} (hP : topOk w a t g p n nt nw dl sg pi an br bs ow) (hE : w 276 5 ≤ 2147482000) (h102 : w 275 102 = dl p) (hst : e_kn w 345 0 (dl p - 1)) (hdl : sg p = 0 → dl p = 0) (h416 : w 276 (1260 * t + 416) = 1) (hW : 0 ≤ w 276 (1260 * t + 424) → w 276 (1260 * t + 425) < w 338 a) {G : Int → Gh} (hG : gAll w G) (hop : 31 ≤ w 328 (10000 * a + p)) : e_Ok 20 elay ecode eI d 376 (0, [(0, (1, 275)), (1, (0, w 328 (10000 * a + p))), (2, (0, w 329 (10000 * a + p))), (3, (0, p))], [], w) (fun r' w' => r' = [] ∧ e_fr mTn w w' ∧ e_Has mTy w' ∧ (w 276 5 ≤ w' 276 5 ∧ w' 276 5 ≤ w 276 5 + 3) ∧ mMo w' (-1) ∧ mOr w' (w 275 40) ∧ (0 ≤ w' 276 (1260 * t + 424) → w' 276 (1260 * t + 425) < w 338 a) ∧ (sg p = 0 → ∀ k, (352 ≤ k ∧ k ≤ 415) ∨ k = 1260 * t + 424 ∨ k = 1260 * t + 426 → w' 276 k = w 276 k) ∧ w' 276 (1260 * t + 417) = w 276 (1260 * t + 417) ∧ w' 275 99 = w 275 99 ∧ (∀ v, 0 ≤ v → v ≤ 15 → v ≠ t → tkOk w G v → tkOk w' G v) ∧ ((w' 275 100 = 1 ∧ (w' 276 (1260 * t + 416) = 6 ∨ w' 276 (1260 * t + 416) = 7)) ∨ (w' 275 100 = 1 ∧ (2 ≤ w' 276 (1260 * t + 416) ∧ w' 276 (1260 * t + 416) ≤ 5) ∧ ∃ (g' p' : Int) (bs' ow' : Int → Int), topOk w' a t g' p' n nt nw dl sg pi an br bs' ow' ∧ dl p' = 0) ∨ (w' 275 100 = w 275 100 ∧ w' 276 (1260 * t + 416) = 1 ∧ w' 275 102 = 0 ∧ (w' 276 5 ≤ w 276 5 + 1 ∧ (sg p = 0 → w' 276 5 = w 276 5)) ∧ ∃ (g' p' : Int) (bs' ow' : Int → Int), topOk w' a t g' p' n nt nw dl sg pi an br bs' ow' ∧ dl p' = 0 ∧ sg p' = 0 ∧ (sg p = 1 ∨ (g' ≤ g ∧ (g' = g → p < p')) ∨ w 328 (10000 * a + p') = 30)))) := by
  by_cases h39 : w 328 (10000 * a + p) = 39
  · exact c_376_r hd hT hA hCf hMo hOr ht ha h96 h97 h98 hC hP hE h102 hst hdl h416 hW hG h39
  · refine (c_376 hd hT hA hCf hMo hOr ht ha h96 h97 h98 hC hP hE h102 hst hdl h416 hW hop h39).imp (fun r' w' h => ?_)
    obtain ⟨h1, h2, h3, h4, h5, h6, h7, h8, h9⟩ := h
    exact ⟨h1, h2.mono (fun c k q => sm_tn ht ha q), h3, h4, h5, h6, h7, h8, h2 _ _ (by unfold mSm mMv mLv mOt mGr; omega), h2 275 99 (by first | exact no_88_6 | (unfold mSm mMv mLv mOt mGr; omega)), fun v v1 v2 v3 hv => tkOk.hop hG hv h2 (fun c k q => sm_tk ht ha ⟨v1, v2⟩ v3 q), h9⟩
end
end
-- part 89
section
noncomputable section
/-- what an act comes to: the turn is over, or goes on with a smaller measure -/
def actP (w w' : eW) (G : Int → Gh) (t a g p : Int) : Prop :=
  (w' 275 100 = 1 ∧ tkOk w' G t) ∨ (w' 275 100 = w 275 100 ∧ ∃ (g' p' : Int) (bs' ow' : Int → Int), actOk w' G t a g' p' bs' ow' ∧ mu2 w' t a g' p' ((G a).sg p') < mu2 w t a g p ((G a).sg p) ∧ w' 276 5 + 2 * (20 - w' 275 99) + 2 * (G a).sg p' ≤ w 276 5 + 2 * (20 - w 275 99) + 2 * (G a).sg p)
def finG (w w' : eW) (G : Int → Gh) (t a g p : Int) : Prop :=
  (w' 275 100 = 1 ∧ (w' 276 (1260 * t + 416) = 6 ∨ w' 276 (1260 * t + 416) = 7)) ∨ (w' 275 100 = w 275 100 ∧ w' 276 (1260 * t + 416) = w 276 (1260 * t + 416) ∧ w' 276 5 = w 276 5 ∧ ∃ (g' p' : Int) (bs' ow' : Int → Int), g' ≤ g ∧ (g' = g → p < p') ∧ gT w' G a t g' p' bs' ow' ∧ (G a).dl p' = 0 ∧ (G a).sg p' = 0)
section E89
variable {w w' : eW} {G : Int → Gh} {t a g p : Int} {bs ow : Int → Int}
theorem actP.fin (hn : (G a).n ≤ 10000) (hsg : 0 ≤ (G a).sg p) (h416 : w 276 (1260 * t + 416) = 1) (h99 : 0 ≤ w 275 99 ∧ w 275 99 ≤ 20) (h9 : w' 275 99 = w 275 99) (hd : w' 275 102 = 0) (hW : 0 ≤ w' 276 (1260 * t + 424) → w' 276 (1260 * t + 425) < w' 338 a)
    (hmu : ∀ g' p', 0 ≤ g' ∧ g' ≤ 19 → 0 ≤ p' ∧ p' ≤ 10000 → g' ≤ g → (g' = g → p < p') → mu2 w' t a g' p' 0 < mu2 w t a g p ((G a).sg p)) (h : finG w w' G t a g p) : actP w w' G t a g p := by
  rcases h with h | ⟨h1, h2, h3, g', p', bs', ow', k1, k2, k3, k4, k5⟩
  · exact Or.inl ⟨h.1, tkOk.not (Or.inr (by omega))⟩
  · have q1 := k3.1
    have q2 := k3.2.2.1
    refine Or.inr ⟨h1, g', p', bs', ow', ⟨k3, by rw [k4]; exact hd, fun i q1 q2 => by omega, fun _ => k4, by omega, hW, by omega⟩, ?_, ?_⟩
    · rw [k5]
      exact hmu g' p' (by omega) (by omega) k1 k2
    · omega
/-- a new frame -/
theorem actP.call {g' p' : Int} {bs' ow' : Int → Int} (hn : (G a).n ≤ 10000) (h416 : w 276 (1260 * t + 416) = 1) (h99 : 0 ≤ w 275 99 ∧ w 275 99 ≤ 20) (h9 : w' 275 99 = w 275 99) (hd : w' 275 102 = 0) (hW : 0 ≤ w' 276 (1260 * t + 424) → w' 276 (1260 * t + 425) < w' 338 a) (h100 : w' 275 100 = w 275 100) (hs : w' 276 (1260 * t + 416) = w 276 (1260 * t + 416)) (hE : w' 276 5 ≤ w 276 5 + 2 * (G a).sg p)
    (hmu : 0 ≤ g' ∧ g' ≤ 19 → 0 ≤ p' ∧ p' ≤ 10000 → mu2 w' t a g' p' 0 < mu2 w t a g p ((G a).sg p)) (k3 : gT w' G a t g' p' bs' ow') (k4 : (G a).dl p' = 0) (k5 : (G a).sg p' = 0) : actP w w' G t a g p := by
  have q1 := k3.1
  have q2 := k3.2.2.1
  refine Or.inr ⟨h100, g', p', bs', ow', ⟨k3, by rw [k4]; exact hd, fun i q1 q2 => by omega, fun _ => k4, by omega, hW, by omega⟩, ?_, ?_⟩
  · rw [k5]
    exact hmu (by omega) (by omega)
  · omega
/-- the turn is over, the task rests at a place -/
theorem actP.rest {g' p' : Int} {bs' ow' : Int → Int} (ha : 0 ≤ a ∧ a ≤ 3) (harm : w' 276 (1260 * t + 417) = a) (h100 : w' 275 100 = 1) (hW : 0 ≤ w' 276 (1260 * t + 424) → w' 276 (1260 * t + 425) < w' 338 a) (k3 : gT w' G a t g' p' bs' ow') (k4 : (G a).dl p' = 0) : actP w w' G t a g p :=
  Or.inl ⟨h100, fun _ _ => ⟨a, g', p', bs', ow', ha, harm, k3, k4, hW⟩⟩
/-- the next place of a statement, or a statement's first -/
theorem actP.step {p' : Int} (hn : (G a).n ≤ 10000) (h416 : w 276 (1260 * t + 416) = 1) (h9 : 0 ≤ w' 275 99 ∧ w' 275 99 ≤ 20) (hd : w' 275 102 = (G a).dl p') (hst : ∀ i, 0 ≤ i → i ≤ (G a).dl p' - 1 → -2147483648 ≤ w' 345 i ∧ w' 345 i ≤ 2147483647) (h0 : (G a).sg p' = 0 → (G a).dl p' = 0) (hW : 0 ≤ w' 276 (1260 * t + 424) → w' 276 (1260 * t + 425) < w' 338 a) (h100 : w' 275 100 = w 275 100) (hs : w' 276 (1260 * t + 416) = w 276 (1260 * t + 416)) (hE : w' 276 5 + 2 * (20 - w' 275 99) + 2 * (G a).sg p' ≤ w 276 5 + 2 * (20 - w 275 99) + 2 * (G a).sg p)
    (hmu : 0 ≤ g ∧ g ≤ 19 → 0 ≤ p' ∧ p' ≤ 10000 → mu2 w' t a g p' ((G a).sg p') < mu2 w t a g p ((G a).sg p)) (k3 : gT w' G a t g p' bs ow) : actP w w' G t a g p := by
  have q1 := k3.1
  have q2 := k3.2.2.1
  exact Or.inr ⟨h100, g, p', bs, ow, ⟨k3, hd, hst, h0, by omega, hW, h9⟩, hmu (by omega) (by omega), hE⟩
end E89
end
end
-- part 90
section
noncomputable section
theorem mo_bg {t c k : Int} (ht : 0 ≤ t ∧ t ≤ 15) (q : moK c k) : ¬ mBg t c k := fun h => h.elim (moK_lv ht q) (fun h => by unfold moK at q; omega)
theorem mo_rk {t c k : Int} (ht : 0 ≤ t ∧ t ≤ 15) (q : moK c k) : ¬ mRk t c k := fun h => h.elim (moK_lv ht q) (fun h => by unfold moK at q; omega)
theorem or_lv {t k : Int} (ht : 0 ≤ t ∧ t ≤ 15) (q : orK k) : ¬ mLv t 276 k := by unfold orK at q; unfold mLv; omega
theorem or_bg {t k : Int} (ht : 0 ≤ t ∧ t ≤ 15) (q : orK k) : ¬ mBg t 276 k := fun h => h.elim (or_lv ht q) (fun h => by unfold orK at q; omega)
theorem or_rk {t k : Int} (ht : 0 ≤ t ∧ t ≤ 15) (q : orK k) : ¬ mRk t 276 k := fun h => h.elim (or_lv ht q) (fun h => by unfold orK at q; omega)
theorem no_90_0 {k : Int} : ¬ mTn 338 k := by unfold mTn; omega
theorem no_90_1 {k : Int} : ¬ mTn 328 k := by unfold mTn; omega
theorem no_90_2 {t : Int} {k : Int} : ¬ mRk t 338 k := by unfold mRk mLv; omega
theorem no_90_3 {t : Int} : ¬ mRk t 275 99 := by unfold mRk mLv; omega
theorem no_90_4 {t : Int} {k : Int} : ¬ mBg t 338 k := by unfold mBg mLv; omega
set_option maxHeartbeats 4000000 in
theorem c_373 {d : Nat} (hd : 37 ≤ d) {w : eW} (hT : e_Has mTy w) (hA : mAc w) (hCf : mCf w) (hMo : mMo w (-1)) (hOr : mOr w (w 275 40)) {t a g p : Int} (ht : 0 ≤ t ∧ t ≤ 15) (ha : 0 ≤ a ∧ a ≤ 3) (h96 : w 275 96 = t) (h97 : w 275 97 = 1260 * t + 416) (h98 : w 275 98 = a) {G : Int → Gh} (hG : gAll w G) {bs ow : Int → Int} (hAc : actOk w G t a g p bs ow) (harm : w 276 (1260 * t + 417) = a) (hE : w 276 5 ≤ 2147482000) : e_Ok 20 elay ecode eI d 373 (0, [(0, (1, 275))], [], w) (fun r' w' => r' = [] ∧ e_fr mTn w w' ∧ e_Has mTy w' ∧ (w 276 5 ≤ w' 276 5 ∧ w' 276 5 ≤ w 276 5 + 3) ∧ mMo w' (-1) ∧ mOr w' (w 275 40) ∧ w' 276 (1260 * t + 417) = w 276 (1260 * t + 417) ∧ (∀ v, 0 ≤ v → v ≤ 15 → v ≠ t → tkOk w G v → tkOk w' G v) ∧ actP w w' G t a g p) := by
  obtain ⟨d, rfl⟩ : ∃ e, d = e + 1 := ⟨d - 1, by omega⟩
  obtain ⟨hP, h102, hst, hdl, h416, hW, h99⟩ := id hAc
  have hC := hG a ha.1 ha.2
  obtain ⟨hpn, hpc, hru⟩ := id hP
  obtain ⟨hg, hF, hlow, hrr, hPn, hch, hpe⟩ := id hru
  have hCn := hC.1
  have hins := hC.2.1 p hpn.1 hpn.2
  have hbg := hlow.2.1 g (by omega) (by omega)
  have hpen := hins.1.2.2.2.1
  have hpib := hC.2.2.2.1.2.1 _ hrr.1 hrr.2
  obtain ⟨hi0, hi1, hi2, hi3, hi4, hi5, hi6, hi7, hi8, hi9, hi10, hi11, hi12, hi13, hi14, hi15, hi16, hi17, hi18, hi19⟩ := id hins
  replace hi1 := (show Hid _ from hi1)
  replace hi2 := (show Hid _ from hi2)
  replace hi3 := (show Hid _ from hi3)
  replace hi4 := (show Hid _ from hi4)
  replace hi5 := (show Hid _ from hi5)
  replace hi6 := (show Hid _ from hi6)
  replace hi7 := (show Hid _ from hi7)
  replace hi8 := (show Hid _ from hi8)
  replace hi9 := (show Hid _ from hi9)
  replace hi10 := (show Hid _ from hi10)
  replace hi11 := (show Hid _ from hi11)
  replace hi12 := (show Hid _ from hi12)
  replace hi13 := (show Hid _ from hi13)
  replace hi14 := (show Hid _ from hi14)
  replace hi15 := (show Hid _ from hi15)
  replace hi16 := (show Hid _ from hi16)
  replace hi17 := (show Hid _ from hi17)
  replace hi18 := (show Hid _ from hi18)
  replace hi19 := (show Hid _ from hi19)
  have hpp := e_Has.get hT (c := 275) (k := 40) (lo := 0) (hi := 32) (mt_o rfl) (by decide)
  have har := e_Has.get hT (c := 329) (k := 10000 * a + p) (lo := -2147483648) (hi := 2147483647) (mt_o rfl) (by decide)
  have hwd := e_Has.get hT (nR_WATCHED (t := t) ht) (by decide)
  refine e_Ok.run (t' := (1, [(0, (1, 275))], [(1, 275)], w)) 1 rfl ?_
  refine e_Ok.getr (z := 276) rfl (el_o rfl) rfl (ef_o rfl) (e_Has.eq hT (mt_o rfl)) ⟨by decide, by decide⟩ ?_
  refine e_Ok.ps1 (x := (1, 275)) (q := 5) 1 rfl ?_
  refine e_Ok.callV rfl (e_dq hd rfl) rfl rfl rfl rfl (c_362 hT (by omega) h97 (f := g + 1) (z := 1260 * t + 2 * g + 436) hF (by omega) (by omega)) (fun r1 w2 h3 => ?_)
  obtain ⟨rfl, rfl⟩ := h3
  refine e_Ok.nrm (q := 8) (st' := [(0, 1260 * t + 2 * g + 436), (1, 276)]) rfl rfl ?_
  refine e_Ok.ald (z := p) rfl (el_o rfl) rfl (by omega) hpc (by omega) ?_
  refine e_Ok.run (t' := (11, [(1, (0, p)), (0, (1, 275))], [(1, 275)], w)) 2 rfl ?_
  refine e_Ok.getr (z := 328) rfl (el_o rfl) rfl (ef_o rfl) (e_Has.eq hT (mt_o rfl)) ⟨by decide, by decide⟩ ?_
  refine e_Ok.ps2 (x := (1, 275)) (y := (0, 10000)) (q := 18) 2 rfl ?_
  refine e_Ok.getf (z := a) rfl (el_o rfl) rfl (ef_o rfl) h98 (by omega) ?_
  refine e_Ok.mul (z := 10000 * a) rfl rfl (by omega) ?_
  refine e_Ok.ps1 (x := (0, p)) (q := 23) 1 rfl ?_
  refine e_Ok.add (z := 10000 * a + p) rfl rfl (by omega) ?_
  refine e_Ok.ald (z := w 328 (10000 * a + p)) rfl (el_o rfl) rfl (by omega) rfl (by omega) ?_
  refine e_Ok.run (t' := (27, [(2, (0, w 328 (10000 * a + p))), (1, (0, p)), (0, (1, 275))], [(1, 275)], w)) 2 rfl ?_
  refine e_Ok.getr (z := 329) rfl (el_o rfl) rfl (ef_o rfl) (e_Has.eq hT (mt_o rfl)) ⟨by decide, by decide⟩ ?_
  refine e_Ok.ps2 (x := (1, 275)) (y := (0, 10000)) (q := 34) 2 rfl ?_
  refine e_Ok.getf (z := a) rfl (el_o rfl) rfl (ef_o rfl) h98 (by omega) ?_
  refine e_Ok.mul (z := 10000 * a) rfl rfl (by omega) ?_
  refine e_Ok.ps1 (x := (0, p)) (q := 39) 1 rfl ?_
  refine e_Ok.add (z := 10000 * a + p) rfl rfl (by omega) ?_
  refine e_Ok.ald (z := w 329 (10000 * a + p)) rfl (el_o rfl) rfl (by omega) rfl (by omega) ?_
  refine e_Ok.run (t' := (45, [(3, (0, w 329 (10000 * a + p))), (2, (0, w 328 (10000 * a + p))), (1, (0, p)), (0, (1, 275))], [(0, 30), (0, w 328 (10000 * a + p))], w)) 3 rfl ?_
  refine e_Ok.if2 rfl (fun h4 => ?_) (fun h4 => ?_)
  · replace h4 : (w 328 (10000 * a + p) : Int) ≠ 30 := h4
    refine e_Ok.ps2 (x := (0, 30)) (y := (0, w 328 (10000 * a + p))) (q := 58) 2 rfl ?_
    refine e_Ok.if2 rfl (fun h5 => ?_) (fun h5 => ?_)
    · replace h5 : (w 328 (10000 * a + p) : Int) ≥ 30 := h5
      refine e_Ok.ps4 (x := (0, p)) (y := (0, w 329 (10000 * a + p))) (z := (0, w 328 (10000 * a + p))) (u := (1, 275)) (q := 75) 4 rfl ?_
      refine e_Ok.callV rfl (e_dq hd rfl) rfl rfl rfl rfl (c_376_u (e_dq hd rfl) hT hA hCf hMo hOr ht ha h96 h97 h98 hC hP (by omega) h102 hst hdl h416 hW hG (by omega)) (fun r6 w7 h8 => ?_)
      obtain ⟨rfl, q9, q9T, q9n, q9m, q9o, q9w, q9z, q9k, q99, q9v, q9c⟩ := h8
      refine e_Ok.nrm (q := 78) (st' := []) rfl rfl ?_
      refine e_Ok.rets rfl rfl ?_
      have hn := hCn.2.1
      have e338 : w7 338 a = w 338 a := q9 338 _ no_90_0
      have hW' : 0 ≤ w7 276 (1260 * t + 424) → w7 276 (1260 * t + 425) < w7 338 a := by rw [e338]; exact q9w
      refine ⟨rfl, (show e_fr mTn w w7 from e_fr.trans (e_fr.refl w) (e_fr.mono q9 (fun c k q => by exact q))), q9T, by omega, q9m, q9o, q9k, q9v, ?_⟩
      rcases q9c with zf | ⟨z1, z2, g2, p2, b2, o2, z3, z4⟩ | ⟨z1, z2, z3, z4, g2, p2, b2, o2, z5, z6, z7, z8⟩
      · exact Or.inl ⟨zf.1, tkOk.not (Or.inr (by omega))⟩
      · exact actP.rest ha (q9k.trans harm) z1 hW' z3 z4
      · have hs1 := hi0.2.2.2.2
        refine actP.call hn h416 h99 q99 z3 hW' z1 (z2.trans h416.symm) (by omega) (fun q1 q2 => ?_) z5 z6 z7
        rcases hs1 with hs1 | hs1
        · rw [hs1]
          exact mu2_out q99 (by omega) (q9 328 _ no_90_1) (q9z hs1) hwd.2 (z8.resolve_left (by omega)) hg (by omega) q1 q2
        · rw [hs1]
          exact mu2_in q99 (by omega) (Or.inr rfl) hg (by omega) q1 q2
    · replace h5 : (w 328 (10000 * a + p) : Int) < 30 := Int.not_le.mp (show ¬ ((w 328 (10000 * a + p) : Int) ≥ 30) from h5)
      refine e_Ok.ps4 (x := (0, p)) (y := (0, w 329 (10000 * a + p))) (z := (0, w 328 (10000 * a + p))) (u := (1, 275)) (q := 65) 4 rfl ?_
      refine e_Ok.callV rfl (e_dq hd rfl) rfl rfl rfl rfl (c_374 (e_dq hd rfl) hT hA ht ha h96 h97 h98 hC hP (by omega) h102 hst (by omega)) (fun r11 w12 h13 => ?_)
      obtain ⟨rfl, ⟨q14, q14S⟩, q14T, q14n, q14c⟩ := h13
      refine e_Ok.nrm (q := 68) (st' := []) rfl rfl ?_
      refine e_Ok.ps0 (q := 78) 1 rfl ?_
      refine e_Ok.rets rfl rfl ?_
      have hn := hCn.2.1
      have e17 : w12 276 (1260 * t + 417) = w 276 (1260 * t + 417) := q14 276 _ (by unfold mRk mLv; omega)
      have e24 : w12 276 (1260 * t + 424) = w 276 (1260 * t + 424) := q14 276 _ (by unfold mRk mLv; omega)
      have e25 : w12 276 (1260 * t + 425) = w 276 (1260 * t + 425) := q14 276 _ (by unfold mRk mLv; omega)
      have e338 : w12 338 a = w 338 a := q14 338 _ (by first | exact no_90_2 | (unfold mRk mLv; omega))
      have hW' : 0 ≤ w12 276 (1260 * t + 424) → w12 276 (1260 * t + 425) < w12 338 a := by rw [e24, e25, e338]; exact hW
      have e3 : ∀ c k, 328 ≤ c → c ≤ 338 → w12 c k = w c k := fun c k q1 q2 => q14 c k (by unfold mRk mLv; omega)
      refine ⟨rfl, (show e_fr mTn w w12 from e_fr.trans (e_fr.refl w) (e_fr.mono q14 (fun c k q => by exact rk_tn ht q))), q14T, by omega, mMo.rel hMo (e_Has.mo hT) hCf q14S (fun c k h => q14 c k (mo_rk ht h)), mOr.fr hOr (by omega) (e_Has.orn hT) (e_Has.orw hT (by omega)) (fun k h => q14 276 k (or_rk ht h)), e17, fun v v1 v2 v3 hv => tkOk.hop hG hv q14 (fun c k h => rk_tk ht ⟨v1, v2⟩ v3 h), ?_⟩
      have k1 := hi1.out (by omega)
      have e9 : w12 275 99 = w 275 99 := q14 275 99 (by first | exact no_90_3 | (unfold mRk mLv; omega))
      have hs1 : (G a).sg p = 1 := k1.1
      rcases q14c with ⟨zd, zf⟩ | ⟨y1, y2, y3, p2, y4, y5, y6, y7, y8⟩
      · exact actP.fin hn (by omega) h416 h99 e9 zd hW' (fun g' p' q1 q2 _ _ => by rw [hs1]; exact mu2_in e9 (by omega) (Or.inr rfl) hg (by omega) q1 q2) zf
      · exact actP.step hn h416 (by omega) y5 y6 (fun h => by omega) hW' y1 y2 (by omega) (fun q1 q2 => by rw [hs1]; exact mu2_in e9 (by omega) (Or.inl ⟨y7, rfl, y8⟩) hg (by omega) q1 q2) y4
  · replace h4 : (w 328 (10000 * a + p) : Int) = 30 := Classical.not_not.mp (show ¬ ((w 328 (10000 * a + p) : Int) ≠ 30) from h4)
    refine e_Ok.ps1 (x := (1, 275)) (q := 49) 1 rfl ?_
    refine e_Ok.callV rfl (e_dq hd rfl) rfl rfl rfl rfl (c_368 (e_dq hd rfl) hT ht ha h96 h97 h98 hC hP (by omega) (by omega) h99 hW) (fun r16 w17 h18 => ?_)
    obtain ⟨rfl, ⟨q19, q19S⟩, q19T, q19n, q19c⟩ := h18
    refine e_Ok.nrm (q := 52) (st' := []) rfl rfl ?_
    refine e_Ok.ps0 (q := 78) 1 rfl ?_
    refine e_Ok.rets rfl rfl ?_
    have hn := hCn.2.1
    have e17 : w17 276 (1260 * t + 417) = w 276 (1260 * t + 417) := q19 276 _ (by unfold mBg mLv; omega)
    have e24 : w17 276 (1260 * t + 424) = w 276 (1260 * t + 424) := q19 276 _ (by unfold mBg mLv; omega)
    have e25 : w17 276 (1260 * t + 425) = w 276 (1260 * t + 425) := q19 276 _ (by unfold mBg mLv; omega)
    have e338 : w17 338 a = w 338 a := q19 338 _ (by first | exact no_90_4 | (unfold mBg mLv; omega))
    have hW' : 0 ≤ w17 276 (1260 * t + 424) → w17 276 (1260 * t + 425) < w17 338 a := by rw [e24, e25, e338]; exact hW
    have e3 : ∀ c k, 328 ≤ c → c ≤ 338 → w17 c k = w c k := fun c k q1 q2 => q19 c k (by unfold mBg mLv; omega)
    refine ⟨rfl, (show e_fr mTn w w17 from e_fr.trans (e_fr.refl w) (e_fr.mono q19 (fun c k q => by exact bg_tn ht q))), q19T, by omega, mMo.rel hMo (e_Has.mo hT) hCf q19S (fun c k h => q19 c k (mo_bg ht h)), mOr.fr hOr (by omega) (e_Has.orn hT) (e_Has.orw hT (by omega)) (fun k h => q19 276 k (or_bg ht h)), e17, fun v v1 v2 v3 hv => tkOk.hop hG hv q19 (fun c k h => bg_tk ht ⟨v1, v2⟩ v3 h), ?_⟩
    have k7 := hi7.out (by omega)
    obtain ⟨z1, z2, z3⟩ | ⟨z9, z1, z2, z3, zc⟩ | ⟨z1, z2, z3, z4, z5, z6, z7⟩ := q19c
    · exact actP.rest ha (e17.trans harm) z1 hW' (gT.fr hC hP e3 (fun k _ => z3 k)) k7.1
    · have e8 : w17 276 (w 276 (1260 * t + 424) + 352) = w 276 (w 276 (1260 * t + 424) + 352) := q19 276 _ (by unfold mBg mLv; omega)
      have hmu : ∀ g' p', 0 ≤ g' ∧ g' ≤ 19 → 0 ≤ p' ∧ p' ≤ 10000 → mu2 w17 t a g' p' 0 < mu2 w t a g p ((G a).sg p) := fun g' p' q1 q2 => mu2_watch z9 k7.2.1 z1 z2 e24 e8 z3 hg (by omega) q1 q2
      rcases zc with ⟨zd, zf⟩ | ⟨y1, y2, y3, y4, p2, b2, o2, y5, y6, y7, y8⟩
      · exact actP.fin hn (by omega) h416 h99 z9 zd hW' (fun g' p' q1 q2 _ _ => hmu g' p' q1 q2) zf
      · exact actP.call hn h416 h99 z9 y8 hW' y1 y2 (by omega) (fun q1 q2 => hmu _ _ q1 q2) y5 y6 y7
    · have hs1 := (hC.2.1 (p + 1) (by omega) (by omega)).1.2.2.2.2
      exact actP.step hn h416 (by omega) (by rw [show (G a).dl (p + 1) = 0 from k7.2.2.2.1]; exact z6) (fun i q1 q2 => by have := k7.2.2.2.1; omega) (fun _ => k7.2.2.2.1) hW' z3 z4 (by omega) (fun q1 q2 => mu2_begin z1 z2 hg (by omega) q1 q2) z7
end
end
