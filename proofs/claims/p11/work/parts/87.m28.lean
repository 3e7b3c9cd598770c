noncomputable section
def Hid (p : Prop) : Prop := p
theorem Hid.out {p : Prop} (h : Hid p) : p := h
def mSm (t a c k : Int) : Prop := mMv t a c k ∨ mOt t c k ∨ (c = 276 ∧ ((20932 ≤ k ∧ k < 21060) ∨ k = 1260 * t + 420))
theorem moK_ot {t c k : Int} (ht : 0 ≤ t ∧ t ≤ 15) (q : moK c k) (q2 : ¬ (c = 276 ∧ k < 160 ∧ (k - 16) % 36 = 4)) : ¬ mOt t c k := by unfold moK at q; unfold mOt mGr; omega
theorem mOt_st {t b f : Int} (ht : 0 ≤ t ∧ t ≤ 15) (h1 : 0 ≤ b) (h2 : b ≤ 3) (hf : f = 16 ∨ f = 22) : ¬ mOt t 276 (36 * b + f) := by unfold mOt mGr; omega
theorem lv_e {t c k : Int} (q : mE c k) : mLv t c k := by unfold mE at q; unfold mLv; omega
theorem sm_own {t a k : Int} (h : k = 1260 * t + 416 ∨ k = 1260 * t + 420 ∨ k = 1260 * t + 429 ∨ (1260 * t + 436 ≤ k ∧ k ≤ 1260 * t + 1675) ∨ (20932 ≤ k ∧ k < 21060)) : mSm t a 276 k := by
  rcases h with h | h | h | h | h
  · exact Or.inl (Or.inl (Or.inr ⟨rfl, by omega⟩))
  · exact Or.inr (Or.inr ⟨rfl, by omega⟩)
  · exact Or.inl (Or.inl (Or.inr ⟨rfl, by omega⟩))
  · exact Or.inl (Or.inl (Or.inr ⟨rfl, by omega⟩))
  · exact Or.inr (Or.inr ⟨rfl, by omega⟩)
theorem moK_e {c k : Int} (q : moK c k ∨ (c = 276 ∧ 16 ≤ k ∧ k < 160)) : ¬ mE c k := by unfold moK at q; unfold mE; omega
theorem no_87_0 {t : Int} {a : Int} (ht : 0 ≤ t ∧ t ≤ 15) (ha : 0 ≤ a ∧ a ≤ 3) : ¬ mMv t a 276 (1260 * t + 424) := by unfold mMv mLv; omega
theorem no_87_1 {t : Int} {a : Int} (ht : 0 ≤ t ∧ t ≤ 15) (ha : 0 ≤ a ∧ a ≤ 3) : ¬ mMv t a 276 (1260 * t + 425) := by unfold mMv mLv; omega
theorem no_87_2 {t : Int} : ¬ mOt t 275 97 := by unfold mOt mGr; omega
theorem no_87_3 {t : Int} (ht : 0 ≤ t ∧ t ≤ 15) : ¬ mOt t 276 (1260 * t + 428) := by unfold mOt mGr; omega
theorem no_87_4 {t : Int} {i : Int} (ht : 0 ≤ t ∧ t ≤ 15) (hi : 0 ≤ i ∧ i ≤ 5) : ¬ mOt t 276 (1260 * t + 2 * i + 436) := by unfold mOt mGr; omega
theorem no_87_5 {t : Int} {i : Int} (ht : 0 ≤ t ∧ t ≤ 15) (hi : 0 ≤ i ∧ i ≤ 5) : ¬ mOt t 276 (1260 * t + 2 * i + 439) := by unfold mOt mGr; omega
theorem no_87_6 {t : Int} (ht : 0 ≤ t ∧ t ≤ 15) : ¬ mOt t 276 (1260 * t + 429) := by unfold mOt mGr; omega
theorem no_87_7 {t : Int} {k : Int} : ¬ mOt t 330 k := by unfold mOt mGr; omega
theorem no_87_8 {t : Int} : ¬ mOt t 275 96 := by unfold mOt mGr; omega
theorem no_87_9 {t : Int} : ¬ mOt t 275 98 := by unfold mOt mGr; omega
theorem no_87_10 {t : Int} {g : Int} (ht : 0 ≤ t ∧ t ≤ 15) (hg : 0 ≤ g ∧ g ≤ 19) : ¬ mOt t 276 (1260 * t + 2 * g + 436) := by unfold mOt mGr; omega
theorem no_87_11 {t : Int} (ht : 0 ≤ t ∧ t ≤ 15) : ¬ mLv t 276 (1260 * t + 424) := by unfold mLv; omega
theorem no_87_12 {t : Int} (ht : 0 ≤ t ∧ t ≤ 15) : ¬ mLv t 276 (1260 * t + 425) := by unfold mLv; omega
theorem no_87_13 {k : Int} : ¬ mE 275 k := by unfold mE; omega
theorem no_87_14 {t : Int} (ht : 0 ≤ t ∧ t ≤ 15) : ¬ mE 276 (1260 * t + 428) := by unfold mE; omega
theorem no_87_15 {t : Int} {i : Int} (ht : 0 ≤ t ∧ t ≤ 15) (hi : 0 ≤ i ∧ i ≤ 5) : ¬ mE 276 (1260 * t + 2 * i + 436) := by unfold mE; omega
theorem no_87_16 {t : Int} {i : Int} (ht : 0 ≤ t ∧ t ≤ 15) (hi : 0 ≤ i ∧ i ≤ 5) : ¬ mE 276 (1260 * t + 2 * i + 439) := by unfold mE; omega
theorem no_87_17 {t : Int} (ht : 0 ≤ t ∧ t ≤ 15) : ¬ mE 276 (1260 * t + 429) := by unfold mE; omega
theorem no_87_18 {k : Int} : ¬ mE 330 k := by unfold mE; omega
theorem no_87_19 {t : Int} (ht : 0 ≤ t ∧ t ≤ 15) : ¬ mE 276 (1260 * t + 424) := by unfold mE; omega
theorem no_87_20 {t : Int} (ht : 0 ≤ t ∧ t ≤ 15) : ¬ mE 276 (1260 * t + 425) := by unfold mE; omega
theorem no_87_21 {t : Int} (ht : 0 ≤ t ∧ t ≤ 15) : ¬ mE 276 (1260 * t + 416) := by unfold mE; omega
set_option maxHeartbeats 4000000 in
theorem c_376 {d : Nat} (hd : 35 ≤ d) {w : eW} (hT : e_Has mTy w) (hA : mAc w) (hCf : mCf w) (hMo : mMo w (-1)) (hOr : mOr w (w 275 40)) {t a g : Int} (ht : 0 ≤ t ∧ t ≤ 15) (ha : 0 ≤ a ∧ a ≤ 3) (h96 : w 275 96 = t) (h97 : w 275 97 = 1260 * t + 416) (h98 : w 275 98 = a) {n nt nw : Int} {dl sg pi en : Int → Int} {an br : Int → Int → Prop} {bs ow : Int → Int} (hC : cOk w a n nt nw dl sg pi en an br) {p : Int} (hP : topOk w a t g p n nt nw dl sg pi an br bs ow) (hE : w 276 5 ≤ 2147482000) (h102 : w 275 102 = dl p) (hst : e_kn w 345 0 (dl p - 1)) (hdl : sg p = 0 → dl p = 0) (h416 : w 276 (1260 * t + 416) = 1) (hW : 0 ≤ w 276 (1260 * t + 424) → w 276 (1260 * t + 425) < w 338 a) (hop : 31 ≤ w 328 (10000 * a + p)) (hn39 : w 328 (10000 * a + p) ≠ 39) : e_Ok 20 elay ecode eI d 376 (0, [(0, (1, 275)), (1, (0, w 328 (10000 * a + p))), (2, (0, w 329 (10000 * a + p))), (3, (0, p))], [], w) (fun r' w' => r' = [] ∧ e_fr (mSm t a) w w' ∧ e_Has mTy w' ∧ (w 276 5 ≤ w' 276 5 ∧ w' 276 5 ≤ w 276 5 + 3) ∧ mMo w' (-1) ∧ mOr w' (w 275 40) ∧ (0 ≤ w' 276 (1260 * t + 424) → w' 276 (1260 * t + 425) < w 338 a) ∧ (sg p = 0 → ∀ k, (352 ≤ k ∧ k ≤ 415) ∨ k = 1260 * t + 424 ∨ k = 1260 * t + 426 → w' 276 k = w 276 k) ∧ ((w' 275 100 = 1 ∧ (w' 276 (1260 * t + 416) = 6 ∨ w' 276 (1260 * t + 416) = 7)) ∨ (w' 275 100 = 1 ∧ (2 ≤ w' 276 (1260 * t + 416) ∧ w' 276 (1260 * t + 416) ≤ 5) ∧ ∃ (g' p' : Int) (bs' ow' : Int → Int), topOk w' a t g' p' n nt nw dl sg pi an br bs' ow' ∧ dl p' = 0) ∨ (w' 275 100 = w 275 100 ∧ w' 276 (1260 * t + 416) = 1 ∧ w' 275 102 = 0 ∧ (w' 276 5 ≤ w 276 5 + 1 ∧ (sg p = 0 → w' 276 5 = w 276 5)) ∧ ∃ (g' p' : Int) (bs' ow' : Int → Int), topOk w' a t g' p' n nt nw dl sg pi an br bs' ow' ∧ dl p' = 0 ∧ sg p' = 0 ∧ (sg p = 1 ∨ (g' ≤ g ∧ (g' = g → p < p')) ∨ w 328 (10000 * a + p') = 30)))) := by
  obtain ⟨d, rfl⟩ : ∃ e, d = e + 1 := ⟨d - 1, by omega⟩
  obtain ⟨hpn, hpc, hru⟩ := id hP
  obtain ⟨hg, hF, hlow, hrr, hPn, hch, hpe⟩ := id hru
  have hCn := hC.1
  have hins := hC.2.1 p hpn.1 hpn.2
  have hbg := hlow.2.1 g (by omega) (by omega)
  have hpen := hins.1.2.2.2.1
  have hpib := hC.2.2.2.1.2.1 _ hrr.1 hrr.2
  obtain ⟨hi0, hi1, hi2, hi3, hi4, hi5, hi6, hi7, hi8, hi9, hi10, hi11, hi12, hi13, hi14, hi15, hi16, hi17, hi18, hi19⟩ := id hins
  replace hi1 := (show Hid _ from hi1)
  replace hi2 := (show Hid _ from hi2)
  replace hi3 := (show Hid _ from hi3)
  replace hi4 := (show Hid _ from hi4)
  replace hi5 := (show Hid _ from hi5)
  replace hi6 := (show Hid _ from hi6)
  replace hi7 := (show Hid _ from hi7)
  replace hi8 := (show Hid _ from hi8)
  replace hi9 := (show Hid _ from hi9)
  replace hi10 := (show Hid _ from hi10)
  replace hi11 := (show Hid _ from hi11)
  replace hi12 := (show Hid _ from hi12)
  replace hi13 := (show Hid _ from hi13)
  replace hi14 := (show Hid _ from hi14)
  replace hi15 := (show Hid _ from hi15)
  replace hi16 := (show Hid _ from hi16)
  replace hi17 := (show Hid _ from hi17)
  replace hi18 := (show Hid _ from hi18)
  replace hi19 := (show Hid _ from hi19)
  have hpp := e_Has.get hT (c := 275) (k := 40) (lo := 0) (hi := 32) (mt_o rfl) (by decide)
  have hrn_ := e_Has.get hT (c := 338) (k := a) (lo := 0) (hi := 32) (mt_o rfl) (by decide)
  have har := e_Has.get hT (c := 329) (k := 10000 * a + p) (lo := -2147483648) (hi := 2147483647) (mt_o rfl) (by decide)
  have htm := e_Has.get hT (c := 276) (k := 0) (lo := 0) (hi := 6000) (mt_o rfl) (by decide)
  refine e_Ok.run (t' := (1, [(0, (1, 275)), (1, (0, w 328 (10000 * a + p))), (2, (0, w 329 (10000 * a + p))), (3, (0, p))], [(0, w 328 (10000 * a + p))], w)) 1 rfl ?_
  have hs2 : ∀ x : Int, 31 ≤ x ∧ x ≤ 51 ∧ x ≠ 39 → (x = 31) ∨ (x = 32) ∨ (x = 33) ∨ (x = 34) ∨ (x = 35 ∨ x = 36 ∨ x = 37 ∨ x = 42 ∨ x = 43 ∨ x = 44) ∨ (x = 38) ∨ (x = 40) ∨ (x = 41) ∨ (x = 45) ∨ (x = 46) ∨ (x = 47) ∨ (x = 48) ∨ (x = 49 ∨ x = 50) ∨ (x = 51) := fun x h => by omega
  obtain h1 | h1 | h1 | h1 | h1 | h1 | h1 | h1 | h1 | h1 | h1 | h1 | h1 | h1 := hs2 (w 328 (10000 * a + p)) (⟨hop, hi0.1.2.1, hn39⟩)
  · refine e_Ok.sw (tg := 100) rfl (by rw [h1]; rfl) ?_
    have k8 := hi8.out (by omega)
    unfold iS iFT at k8
    have k9 := hi9.out (by omega)
    refine e_Ok.run (t' := (101, [(0, (1, 275)), (1, (0, w 328 (10000 * a + p))), (2, (0, w 329 (10000 * a + p))), (3, (0, p))], [(1, 275)], w)) 1 rfl ?_
    refine e_Ok.getr (z := 276) rfl (el_o rfl) rfl (ef_o rfl) (e_Has.eq hT (mt_o rfl)) ⟨by decide, by decide⟩ ?_
    refine e_Ok.ps3 (x := (1, 275)) (y := (0, 32)) (z := (0, 20932)) (q := 110) 3 rfl ?_
    refine e_Ok.getf (z := a) rfl (el_o rfl) rfl (ef_o rfl) h98 (by omega) ?_
    refine e_Ok.mul (z := 32 * a) rfl rfl (by omega) ?_
    refine e_Ok.add (z := 32 * a + 20932) rfl (Int.add_comm _ _) (by omega) ?_
    refine e_Ok.ps1 (x := (0, w 329 (10000 * a + p))) (q := 116) 1 rfl ?_
    refine e_Ok.add (z := 32 * a + w 329 (10000 * a + p) + 20932) rfl (by omega) (by omega) ?_
    refine e_Ok.ps1 (x := (1, 275)) (q := 118) 1 rfl ?_
    refine e_Ok.callV rfl (e_dq hd rfl) rfl rfl rfl rfl (c_364 hT (e := dl p) (u := dl p - 1) h102 (by omega) (by omega) (by have q : w 345 (dl p - 1) = w 345 (dl p - 1) := rfl; have q2 := (hst (dl p - 1) (by omega) (by omega)); omega)) (fun r3 w4 h5 => ?_)
    obtain ⟨rfl, hw4⟩ := h5
    generalize hz6 : w 345 (dl p - 1) = z6
    have z6r : z6 = w 345 (dl p - 1) := Eq.trans hz6.symm rfl
    have z6b : -2147483648 ≤ z6 ∧ z6 ≤ 2147483647 := by rw [← hz6]; exact (by have q : w 345 (dl p - 1) = w 345 (dl p - 1) := rfl; have q2 := (hst (dl p - 1) (by omega) (by omega)); omega)
    have hT8 : e_Has mTy w4 := e_Has.ups hT hw4 (mt_o rfl)
    refine e_Ok.nrm (q := 121) (st' := [(0, z6), (0, 32 * a + w 329 (10000 * a + p) + 20932), (1, 276)]) rfl rfl ?_
    refine e_Ok.ast rfl (el_o rfl) rfl rfl (by omega) ?_
    generalize hw9 : e_up w4 276 (32 * a + w 329 (10000 * a + p) + 20932) z6 = w9
    have hT11 : e_Has mTy w9 := e_Has.upr hT8 hw9 (nR_mid (by omega)) (by omega)
    refine e_Ok.ps3 (x := (0, 1)) (y := (0, p)) (z := (1, 275)) (q := 422) 4 rfl ?_
    refine e_Ok.add (z := p + 1) rfl rfl (by omega) ?_
    refine e_Ok.callV rfl (e_dq hd rfl) rfl rfl rfl rfl (c_365 (e_dq hd rfl) hT11 (by omega) (e_uq hw9 (Or.inl (by first | decide | omega)) (e_uq hw4 (Or.inr (by omega)) h97)) (f := g + 1) (z := 1260 * t + 2 * g + 436) (e_uq hw9 (Or.inr (by omega)) (e_uq hw4 (Or.inl (by first | decide | omega)) hF)) (by omega) (by omega)) (fun r12 w13 h14 => ?_)
    obtain ⟨rfl, hw13⟩ := h14
    have hT16 : e_Has mTy w13 := e_Has.upr hT11 hw13 (nR_FRg t (g) (by omega) (by omega) (by omega)) (by omega)
    refine e_Ok.nrm (q := 426) (st' := []) rfl rfl ?_
    refine e_Ok.rets rfl rfl ?_
    have e17 : w13 276 5 = w 276 5 := (e_uq hw13 (Or.inr (by omega)) (e_uq hw9 (Or.inr (by omega)) (e_uq hw4 (Or.inl (by omega)) rfl)))
    have hrn := runOk.fr (w' := w13) (fun c k q1 q2 => (e_uq hw13 (Or.inl (by omega)) (e_uq hw9 (Or.inl (by omega)) (e_uq hw4 (Or.inl (by omega)) rfl)))) (fun i q1 q2 => ⟨(e_uq hw13 (Or.inr (by omega)) (e_uq hw9 (Or.inr (by omega)) (e_uq hw4 (Or.inl (by omega)) rfl))), (e_uq hw13 (Or.inr (by omega)) (e_uq hw9 (Or.inr (by omega)) (e_uq hw4 (Or.inl (by omega)) rfl)))⟩) (e_uq hw13 (Or.inr (by omega)) (e_uq hw9 (Or.inr (by omega)) (e_uq hw4 (Or.inl (by omega)) rfl))) (e_uq hw13 (Or.inr (by omega)) (e_uq hw9 (Or.inr (by omega)) (e_uq hw4 (Or.inl (by omega)) rfl))) (fun k q1 q2 => (e_uq hw13 (Or.inr (by omega)) (e_uq hw9 (Or.inr (by omega)) (e_uq hw4 (Or.inl (by omega)) rfl)))) (by omega) hru
    have erg : w13 330 (10000 * a + (p + 1)) = w 330 (10000 * a + p) := by rw [show 10000 * a + (p + 1) = 10000 * a + p + 1 by omega]; exact Eq.trans (e_uq hw13 (Or.inl (by first | decide | omega)) (e_uq hw9 (Or.inl (by first | decide | omega)) (e_uq hw4 (Or.inl (by first | decide | omega)) rfl))) k8.1.2
    have edp : w13 275 102 = dl p - 1 := (e_uq hw13 (Or.inl (by omega)) (e_uq hw9 (Or.inl (by decide)) (e_ue hw4)))
    exact ⟨rfl, (show e_fr (mSm t a) w w13 from e_fr.up (show e_fr (mSm t a) w w9 from e_fr.up (show e_fr (mSm t a) w w4 from e_fr.up (e_fr.refl w) hw4 (Or.inl (Or.inl (Or.inl ⟨rfl, by decide⟩)))) hw9 (sm_own (by omega))) hw13 (sm_own (by omega))), hT16, by omega, (mMo.same (mMo.same (mMo.same hMo (e_Has.mo hT) (fun c k q => by rw [← hw4]; exact e_up_ne _ _ (q.elim (fun q => moK_275 q (by decide)) (fun q => by omega)))) (e_Has.mo hT8) (fun c k q => by rw [← hw9]; exact e_up_ne _ _ (q.elim (fun q => moK_now q (by omega)) (fun q => by omega)))) (e_Has.mo hT11) (fun c k q => by rw [← hw13]; exact e_up_ne _ _ (q.elim (fun q => moK_now q (by omega)) (fun q => by omega)))), (mOr.fr hOr (by omega) (e_Has.orn hT) (e_Has.orw hT (by omega)) (fun k q => by unfold orK at q; exact (e_uq hw13 (Or.inr (by omega)) (e_uq hw9 (Or.inr (by omega)) (e_uq hw4 (Or.inl (by omega)) rfl))))), (fun e => by have e1 : w13 276 (1260 * t + 424) = w 276 (1260 * t + 424) := (e_uq hw13 (Or.inr (by omega)) (e_uq hw9 (Or.inr (by omega)) (e_uq hw4 (Or.inl (by omega)) rfl))); have e2 : w13 276 (1260 * t + 425) = w 276 (1260 * t + 425) := (e_uq hw13 (Or.inr (by omega)) (e_uq hw9 (Or.inr (by omega)) (e_uq hw4 (Or.inl (by omega)) rfl))); have := hW (by omega); omega), (fun e => by exfalso; omega), Or.inr (Or.inr ⟨(e_uq hw13 (Or.inl (by omega)) (e_uq hw9 (Or.inl (by omega)) (e_uq hw4 (Or.inr (by omega)) rfl))), (e_uq hw13 (Or.inr (by omega)) (e_uq hw9 (Or.inr (by omega)) (e_uq hw4 (Or.inl (by omega)) h416))), by omega, by omega, ⟨g, p + 1, bs, ow, runOk.at hrn (by omega) (e_ue hw13) erg, by omega, by omega, Or.inl (by omega)⟩⟩)⟩
  · refine e_Ok.sw (tg := 125) rfl (by rw [h1]; rfl) ?_
    have k8 := hi8.out (by omega)
    unfold iS iFT at k8
    have k10 := hi10.out (by omega)
    refine e_Ok.run (t' := (128, [(0, (1, 275)), (1, (0, w 328 (10000 * a + p))), (2, (0, w 329 (10000 * a + p))), (3, (0, p))], [(0, p), (0, w 329 (10000 * a + p)), (1, 275)], w)) 3 rfl ?_
    refine e_Ok.callV rfl (e_dq hd rfl) rfl rfl rfl rfl (c_380 (e_dq hd rfl) hT hCf hMo (by omega) (by omega) h96 h97 h98 hC hP (by omega) h102 hst (by omega)) (fun r18 w19 h20 => ?_)
    obtain ⟨rfl, q21, q21T, q21n, q21m, q21c⟩ := h20
    refine e_Ok.nrm (q := 131) (st' := []) rfl rfl ?_
    refine e_Ok.rets rfl rfl ?_
    have e23 : w19 276 5 = w19 276 5 := rfl
    exact ⟨rfl, (show e_fr (mSm t a) w w19 from e_fr.trans (e_fr.refl w) (e_fr.mono q21 (fun c k q => by exact Or.inl q))), q21T, by omega, q21m, (mOr.fr hOr (by omega) (e_Has.orn hT) (e_Has.orw hT (by omega)) (fun k q => by unfold orK at q; exact ((q21 276 k (by unfold mMv mLv; omega)).trans rfl))), (fun e => by have e1 : w19 276 (1260 * t + 424) = w 276 (1260 * t + 424) := ((q21 276 (1260 * t + 424) (by first | exact no_87_0 (by omega) (by omega) | (unfold mMv mLv; omega))).trans rfl); have e2 : w19 276 (1260 * t + 425) = w 276 (1260 * t + 425) := ((q21 276 (1260 * t + 425) (by first | exact no_87_1 (by omega) (by omega) | (unfold mMv mLv; omega))).trans rfl); have := hW (by omega); omega), (fun e => by exfalso; omega), q21c.elim (fun hh => hh.2.elim (fun h => Or.inl h) (fun h => Or.inr (Or.inr ⟨h.1, h.2.1.trans h416, hh.1, by have := h.2.2.1; omega, by obtain ⟨g2, p2, b2, o2, k21, k22, k23, k24, k25⟩ := h.2.2.2; exact ⟨g2, p2, b2, o2, k23, k24, k25, Or.inr (Or.inl ⟨k21, k22⟩)⟩⟩))) (fun h => Or.inr (Or.inl ⟨h.1, by omega, g, p + 1, bs, ow, h.2.2.1, h.2.2.2⟩))⟩
  · refine e_Ok.sw (tg := 132) rfl (by rw [h1]; rfl) ?_
    have k8 := hi8.out (by omega)
    unfold iS iFT at k8
    have k11 := hi11.out (by omega)
    refine e_Ok.run (t' := (133, [(0, (1, 275)), (1, (0, w 328 (10000 * a + p))), (2, (0, w 329 (10000 * a + p))), (3, (0, p))], [(1, 275)], w)) 1 rfl ?_
    refine e_Ok.callV rfl (e_dq hd rfl) rfl rfl rfl rfl (c_364 hT (e := dl p) (u := dl p - 1) h102 (by omega) (by omega) (by have q : w 345 (dl p - 1) = w 345 (dl p - 1) := rfl; have q2 := (hst (dl p - 1) (by omega) (by omega)); omega)) (fun r24 w25 h26 => ?_)
    obtain ⟨rfl, hw25⟩ := h26
    generalize hz27 : w 345 (dl p - 1) = z27
    have z27r : z27 = w 345 (dl p - 1) := Eq.trans hz27.symm rfl
    have z27b : -2147483648 ≤ z27 ∧ z27 ≤ 2147483647 := by rw [← hz27]; exact (by have q : w 345 (dl p - 1) = w 345 (dl p - 1) := rfl; have q2 := (hst (dl p - 1) (by omega) (by omega)); omega)
    have f28 : e_fr (mSm t a) w w25 := e_fr.up (e_fr.refl w) hw25 (Or.inl (Or.inl (Or.inl ⟨rfl, by decide⟩)))
    have hT29 : e_Has mTy w25 := e_Has.ups hT hw25 (mt_o rfl)
    refine e_Ok.nrm (q := 136) (st' := [(0, z27)]) rfl rfl ?_
    refine e_Ok.run (t' := (140, [(4, (0, z27)), (0, (1, 275)), (1, (0, w 328 (10000 * a + p))), (2, (0, w 329 (10000 * a + p))), (3, (0, p))], [(0, z27)], w25)) 2 rfl ?_
    refine e_Ok.if1 rfl (fun h30 => ?_) (fun h30 => ?_)
    · replace h30 : (z27 : Int) ≤ 0 := h30
      refine e_Ok.ps3 (x := (0, 1)) (y := (0, p)) (z := (1, 275)) (q := 422) 3 rfl ?_
      refine e_Ok.add (z := p + 1) rfl rfl (by omega) ?_
      refine e_Ok.callV rfl (e_dq hd rfl) rfl rfl rfl rfl (c_365 (e_dq hd rfl) hT29 (by omega) (e_uq hw25 (Or.inr (by omega)) h97) (f := g + 1) (z := 1260 * t + 2 * g + 436) (e_uq hw25 (Or.inl (by first | decide | omega)) hF) (by omega) (by omega)) (fun r31 w32 h33 => ?_)
      obtain ⟨rfl, hw32⟩ := h33
      have hT35 : e_Has mTy w32 := e_Has.upr hT29 hw32 (nR_FRg t (g) (by omega) (by omega) (by omega)) (by omega)
      refine e_Ok.nrm (q := 426) (st' := []) rfl rfl ?_
      refine e_Ok.rets rfl rfl ?_
      have e36 : w32 276 5 = w 276 5 := (e_uq hw32 (Or.inr (by omega)) (e_uq hw25 (Or.inl (by omega)) rfl))
      have hrn := runOk.fr (w' := w32) (fun c k q1 q2 => (e_uq hw32 (Or.inl (by omega)) (e_uq hw25 (Or.inl (by omega)) rfl))) (fun i q1 q2 => ⟨(e_uq hw32 (Or.inr (by omega)) (e_uq hw25 (Or.inl (by omega)) rfl)), (e_uq hw32 (Or.inr (by omega)) (e_uq hw25 (Or.inl (by omega)) rfl))⟩) (e_uq hw32 (Or.inr (by omega)) (e_uq hw25 (Or.inl (by omega)) rfl)) (e_uq hw32 (Or.inr (by omega)) (e_uq hw25 (Or.inl (by omega)) rfl)) (fun k q1 q2 => (e_uq hw32 (Or.inr (by omega)) (e_uq hw25 (Or.inl (by omega)) rfl))) (by omega) hru
      have erg : w32 330 (10000 * a + (p + 1)) = w 330 (10000 * a + p) := by rw [show 10000 * a + (p + 1) = 10000 * a + p + 1 by omega]; exact Eq.trans (e_uq hw32 (Or.inl (by first | decide | omega)) (e_uq hw25 (Or.inl (by first | decide | omega)) rfl)) k8.1.2
      have edp : w32 275 102 = dl p - 1 := (e_uq hw32 (Or.inl (by omega)) (e_ue hw25))
      exact ⟨rfl, (show e_fr (mSm t a) w w32 from e_fr.up f28 hw32 (sm_own (by omega))), hT35, by omega, (mMo.same (mMo.same hMo (e_Has.mo hT) (fun c k q => by rw [← hw25]; exact e_up_ne _ _ (q.elim (fun q => moK_275 q (by decide)) (fun q => by omega)))) (e_Has.mo hT29) (fun c k q => by rw [← hw32]; exact e_up_ne _ _ (q.elim (fun q => moK_now q (by omega)) (fun q => by omega)))), (mOr.fr hOr (by omega) (e_Has.orn hT) (e_Has.orw hT (by omega)) (fun k q => by unfold orK at q; exact (e_uq hw32 (Or.inr (by omega)) (e_uq hw25 (Or.inl (by omega)) rfl)))), (fun e => by have e1 : w32 276 (1260 * t + 424) = w 276 (1260 * t + 424) := (e_uq hw32 (Or.inr (by omega)) (e_uq hw25 (Or.inl (by omega)) rfl)); have e2 : w32 276 (1260 * t + 425) = w 276 (1260 * t + 425) := (e_uq hw32 (Or.inr (by omega)) (e_uq hw25 (Or.inl (by omega)) rfl)); have := hW (by omega); omega), (fun e => by exfalso; omega), Or.inr (Or.inr ⟨(e_uq hw32 (Or.inl (by omega)) (e_uq hw25 (Or.inr (by omega)) rfl)), (e_uq hw32 (Or.inr (by omega)) (e_uq hw25 (Or.inl (by omega)) h416)), by omega, by omega, ⟨g, p + 1, bs, ow, runOk.at hrn (by omega) (e_ue hw32) erg, by omega, by omega, Or.inl (by omega)⟩⟩)⟩
    · replace h30 : (z27 : Int) > 0 := Int.not_le.mp (show ¬ ((z27 : Int) ≤ 0) from h30)
      refine e_Ok.ps1 (x := (1, 275)) (q := 144) 1 rfl ?_
      refine e_Ok.getr (z := 276) rfl (el_o rfl) rfl (ef_o rfl) (e_uq hw25 (Or.inr (by omega)) (e_Has.eq hT (mt_o rfl))) ⟨by decide, by decide⟩ ?_
      refine e_Ok.ps1 (x := (1, 275)) (q := 148) 1 rfl ?_
      refine e_Ok.getf (z := 1260 * t + 416) rfl (el_o rfl) rfl (ef_o rfl) (e_uq hw25 (Or.inr (by omega)) h97) (by omega) ?_
      refine e_Ok.ps1 (x := (0, 3)) (q := 152) 1 rfl ?_
      refine e_Ok.ast rfl (el_o rfl) rfl rfl (by omega) ?_
      generalize hw37 : e_up w25 276 (1260 * t + 416) 3 = w37
      have f38 : e_fr (mSm t a) w w37 := e_fr.up f28 hw37 (sm_own (by omega))
      have hT40 : e_Has mTy w37 := e_Has.upr hT29 hw37 (nR_TSTATE (t := t) (by omega)) (by omega)
      refine e_Ok.ps1 (x := (1, 275)) (q := 154) 1 rfl ?_
      refine e_Ok.getr (z := 276) rfl (el_o rfl) rfl (ef_o rfl) (e_uq hw37 (Or.inl (by decide)) (e_uq hw25 (Or.inr (by omega)) (e_Has.eq hT (mt_o rfl)))) ⟨by decide, by decide⟩ ?_
      refine e_Ok.ps1 (x := (1, 275)) (q := 158) 1 rfl ?_
      refine e_Ok.getf (z := 1260 * t + 416) rfl (el_o rfl) rfl (ef_o rfl) (e_uq hw37 (Or.inl (by decide)) (e_uq hw25 (Or.inr (by omega)) h97)) (by omega) ?_
      refine e_Ok.ps1 (x := (0, 4)) (q := 162) 1 rfl ?_
      refine e_Ok.add (z := 1260 * t + 420) rfl (e_adl (by decide)) (by omega) ?_
      refine e_Ok.ps2 (x := (0, 6000)) (y := (0, z27)) (q := 168) 2 rfl ?_
      refine e_Ok.if2 rfl (fun h41 => ?_) (fun h41 => ?_)
      · replace h41 : (z27 : Int) ≤ 6000 := h41
        refine e_Ok.ps1 (x := (1, 275)) (q := 178) 1 rfl ?_
        refine e_Ok.getr (z := 276) rfl (el_o rfl) rfl (ef_o rfl) (e_uq hw37 (Or.inl (by decide)) (e_uq hw25 (Or.inr (by omega)) (e_Has.eq hT (mt_o rfl)))) ⟨by decide, by decide⟩ ?_
        refine e_Ok.ps1 (x := (0, 0)) (q := 182) 1 rfl ?_
        refine e_Ok.ald (z := w 276 0) rfl (el_o rfl) rfl (by omega) (e_uq hw37 (Or.inr (by omega)) (e_uq hw25 (Or.inl (by omega)) rfl)) (by omega) ?_
        refine e_Ok.ps1 (x := (0, z27)) (q := 185) 1 rfl ?_
        refine e_Ok.add (z := w 276 0 + z27) rfl rfl (by omega) ?_
        refine e_Ok.ast rfl (el_o rfl) rfl rfl (by omega) ?_
        generalize hw42 : e_up w37 276 (1260 * t + 420) (w 276 0 + z27) = w42
        have hT44 : e_Has mTy w42 := e_Has.upr hT40 hw42 (nR_WAKE (t := t) (by omega)) (by omega)
        refine e_Ok.ps2 (x := (0, 1)) (y := (1, 275)) (q := 189) 2 rfl ?_
        refine e_Ok.putb rfl (el_o rfl) rfl (ef_o rfl) (by omega) ?_
        generalize hw45 : e_up w42 275 100 1 = w45
        have hT47 : e_Has mTy w45 := e_Has.ups hT44 hw45 (mt_o rfl)
        refine e_Ok.ps3 (x := (0, 1)) (y := (0, p)) (z := (1, 275)) (q := 422) 4 rfl ?_
        refine e_Ok.add (z := p + 1) rfl rfl (by omega) ?_
        refine e_Ok.callV rfl (e_dq hd rfl) rfl rfl rfl rfl (c_365 (e_dq hd rfl) hT47 (by omega) (e_uq hw45 (Or.inr (by first | decide | omega)) (e_uq hw42 (Or.inl (by first | decide | omega)) (e_uq hw37 (Or.inl (by first | decide | omega)) (e_uq hw25 (Or.inr (by omega)) h97)))) (f := g + 1) (z := 1260 * t + 2 * g + 436) (e_uq hw45 (Or.inl (by first | decide | omega)) (e_uq hw42 (Or.inr (by omega)) (e_uq hw37 (Or.inr (by omega)) (e_uq hw25 (Or.inl (by first | decide | omega)) hF)))) (by omega) (by omega)) (fun r48 w49 h50 => ?_)
        obtain ⟨rfl, hw49⟩ := h50
        have hT52 : e_Has mTy w49 := e_Has.upr hT47 hw49 (nR_FRg t (g) (by omega) (by omega) (by omega)) (by omega)
        refine e_Ok.nrm (q := 426) (st' := []) rfl rfl ?_
        refine e_Ok.rets rfl rfl ?_
        have e53 : w49 276 5 = w 276 5 := (e_uq hw49 (Or.inr (by omega)) (e_uq hw45 (Or.inl (by decide)) (e_uq hw42 (Or.inr (by omega)) (e_uq hw37 (Or.inr (by omega)) (e_uq hw25 (Or.inl (by omega)) rfl)))))
        have hrn := runOk.fr (w' := w49) (fun c k q1 q2 => (e_uq hw49 (Or.inl (by omega)) (e_uq hw45 (Or.inl (by omega)) (e_uq hw42 (Or.inl (by omega)) (e_uq hw37 (Or.inl (by omega)) (e_uq hw25 (Or.inl (by omega)) rfl)))))) (fun i q1 q2 => ⟨(e_uq hw49 (Or.inr (by omega)) (e_uq hw45 (Or.inl (by omega)) (e_uq hw42 (Or.inr (by omega)) (e_uq hw37 (Or.inr (by omega)) (e_uq hw25 (Or.inl (by omega)) rfl))))), (e_uq hw49 (Or.inr (by omega)) (e_uq hw45 (Or.inl (by omega)) (e_uq hw42 (Or.inr (by omega)) (e_uq hw37 (Or.inr (by omega)) (e_uq hw25 (Or.inl (by omega)) rfl)))))⟩) (e_uq hw49 (Or.inr (by omega)) (e_uq hw45 (Or.inl (by omega)) (e_uq hw42 (Or.inr (by omega)) (e_uq hw37 (Or.inr (by omega)) (e_uq hw25 (Or.inl (by omega)) rfl))))) (e_uq hw49 (Or.inr (by omega)) (e_uq hw45 (Or.inl (by omega)) (e_uq hw42 (Or.inr (by omega)) (e_uq hw37 (Or.inr (by omega)) (e_uq hw25 (Or.inl (by omega)) rfl))))) (fun k q1 q2 => (e_uq hw49 (Or.inr (by omega)) (e_uq hw45 (Or.inl (by omega)) (e_uq hw42 (Or.inr (by omega)) (e_uq hw37 (Or.inr (by omega)) (e_uq hw25 (Or.inl (by omega)) rfl)))))) (by omega) hru
        have erg : w49 330 (10000 * a + (p + 1)) = w 330 (10000 * a + p) := by rw [show 10000 * a + (p + 1) = 10000 * a + p + 1 by omega]; exact Eq.trans (e_uq hw49 (Or.inl (by first | decide | omega)) (e_uq hw45 (Or.inl (by first | decide | omega)) (e_uq hw42 (Or.inl (by first | decide | omega)) (e_uq hw37 (Or.inl (by first | decide | omega)) (e_uq hw25 (Or.inl (by first | decide | omega)) rfl))))) k8.1.2
        have est : w49 276 (1260 * t + 416) = 3 := (e_uq hw49 (Or.inr (by omega)) (e_uq hw45 (Or.inl (by decide)) (e_uq hw42 (Or.inr (e_neo (by decide))) (e_ue hw37))))
        exact ⟨rfl, (show e_fr (mSm t a) w w49 from e_fr.up (show e_fr (mSm t a) w w45 from e_fr.up (show e_fr (mSm t a) w w42 from e_fr.up f38 hw42 (sm_own (by omega))) hw45 (Or.inl (Or.inl (Or.inl ⟨rfl, by decide⟩)))) hw49 (sm_own (by omega))), hT52, by omega, (mMo.same (mMo.same (mMo.same (mMo.same (mMo.same hMo (e_Has.mo hT) (fun c k q => by rw [← hw25]; exact e_up_ne _ _ (q.elim (fun q => moK_275 q (by decide)) (fun q => by omega)))) (e_Has.mo hT29) (fun c k q => by rw [← hw37]; exact e_up_ne _ _ (q.elim (fun q => moK_now q (by omega)) (fun q => by omega)))) (e_Has.mo hT40) (fun c k q => by rw [← hw42]; exact e_up_ne _ _ (q.elim (fun q => moK_now q (by omega)) (fun q => by omega)))) (e_Has.mo hT44) (fun c k q => by rw [← hw45]; exact e_up_ne _ _ (q.elim (fun q => moK_275 q (by decide)) (fun q => by omega)))) (e_Has.mo hT47) (fun c k q => by rw [← hw49]; exact e_up_ne _ _ (q.elim (fun q => moK_now q (by omega)) (fun q => by omega)))), (mOr.fr hOr (by omega) (e_Has.orn hT) (e_Has.orw hT (by omega)) (fun k q => by unfold orK at q; exact (e_uq hw49 (Or.inr (by omega)) (e_uq hw45 (Or.inl (by omega)) (e_uq hw42 (Or.inr (by omega)) (e_uq hw37 (Or.inr (by omega)) (e_uq hw25 (Or.inl (by omega)) rfl))))))), (fun e => by have e1 : w49 276 (1260 * t + 424) = w 276 (1260 * t + 424) := (e_uq hw49 (Or.inr (by omega)) (e_uq hw45 (Or.inl (by omega)) (e_uq hw42 (Or.inr (by omega)) (e_uq hw37 (Or.inr (by omega)) (e_uq hw25 (Or.inl (by omega)) rfl))))); have e2 : w49 276 (1260 * t + 425) = w 276 (1260 * t + 425) := (e_uq hw49 (Or.inr (by omega)) (e_uq hw45 (Or.inl (by omega)) (e_uq hw42 (Or.inr (by omega)) (e_uq hw37 (Or.inr (by omega)) (e_uq hw25 (Or.inl (by omega)) rfl))))); have := hW (by omega); omega), (fun e => by exfalso; omega), Or.inr (Or.inl ⟨(e_uq hw49 (Or.inl (by omega)) (e_ue hw45)), by omega, by obtain ⟨g2, p2, b2, o2, k21, k22, k23, k24⟩ := (show ∃ (g' p' : Int) (bs' ow' : Int → Int), topOk w49 a t g' p' n nt nw dl sg pi an br bs' ow' ∧ dl p' = 0 ∧ True ∧ True from ⟨g, p + 1, bs, ow, runOk.at hrn (by omega) (e_ue hw49) erg, by omega, trivial, trivial⟩); exact ⟨g2, p2, b2, o2, k21, k22⟩⟩)⟩
      · replace h41 : (z27 : Int) > 6000 := Int.not_le.mp (show ¬ ((z27 : Int) ≤ 6000) from h41)
        refine e_Ok.ps1 (x := (0, 6001)) (q := 186) 2 rfl ?_
        refine e_Ok.ast rfl (el_o rfl) rfl rfl (by omega) ?_
        generalize hw54 : e_up w37 276 (1260 * t + 420) 6001 = w54
        have hT56 : e_Has mTy w54 := e_Has.upr hT40 hw54 (nR_WAKE (t := t) (by omega)) (by omega)
        refine e_Ok.ps2 (x := (0, 1)) (y := (1, 275)) (q := 189) 2 rfl ?_
        refine e_Ok.putb rfl (el_o rfl) rfl (ef_o rfl) (by omega) ?_
        generalize hw57 : e_up w54 275 100 1 = w57
        have hT59 : e_Has mTy w57 := e_Has.ups hT56 hw57 (mt_o rfl)
        refine e_Ok.ps3 (x := (0, 1)) (y := (0, p)) (z := (1, 275)) (q := 422) 4 rfl ?_
        refine e_Ok.add (z := p + 1) rfl rfl (by omega) ?_
        refine e_Ok.callV rfl (e_dq hd rfl) rfl rfl rfl rfl (c_365 (e_dq hd rfl) hT59 (by omega) (e_uq hw57 (Or.inr (by first | decide | omega)) (e_uq hw54 (Or.inl (by first | decide | omega)) (e_uq hw37 (Or.inl (by first | decide | omega)) (e_uq hw25 (Or.inr (by omega)) h97)))) (f := g + 1) (z := 1260 * t + 2 * g + 436) (e_uq hw57 (Or.inl (by first | decide | omega)) (e_uq hw54 (Or.inr (by omega)) (e_uq hw37 (Or.inr (by omega)) (e_uq hw25 (Or.inl (by first | decide | omega)) hF)))) (by omega) (by omega)) (fun r60 w61 h62 => ?_)
        obtain ⟨rfl, hw61⟩ := h62
        have hT64 : e_Has mTy w61 := e_Has.upr hT59 hw61 (nR_FRg t (g) (by omega) (by omega) (by omega)) (by omega)
        refine e_Ok.nrm (q := 426) (st' := []) rfl rfl ?_
        refine e_Ok.rets rfl rfl ?_
        have e65 : w61 276 5 = w 276 5 := (e_uq hw61 (Or.inr (by omega)) (e_uq hw57 (Or.inl (by decide)) (e_uq hw54 (Or.inr (by omega)) (e_uq hw37 (Or.inr (by omega)) (e_uq hw25 (Or.inl (by omega)) rfl)))))
        have hrn := runOk.fr (w' := w61) (fun c k q1 q2 => (e_uq hw61 (Or.inl (by omega)) (e_uq hw57 (Or.inl (by omega)) (e_uq hw54 (Or.inl (by omega)) (e_uq hw37 (Or.inl (by omega)) (e_uq hw25 (Or.inl (by omega)) rfl)))))) (fun i q1 q2 => ⟨(e_uq hw61 (Or.inr (by omega)) (e_uq hw57 (Or.inl (by omega)) (e_uq hw54 (Or.inr (by omega)) (e_uq hw37 (Or.inr (by omega)) (e_uq hw25 (Or.inl (by omega)) rfl))))), (e_uq hw61 (Or.inr (by omega)) (e_uq hw57 (Or.inl (by omega)) (e_uq hw54 (Or.inr (by omega)) (e_uq hw37 (Or.inr (by omega)) (e_uq hw25 (Or.inl (by omega)) rfl)))))⟩) (e_uq hw61 (Or.inr (by omega)) (e_uq hw57 (Or.inl (by omega)) (e_uq hw54 (Or.inr (by omega)) (e_uq hw37 (Or.inr (by omega)) (e_uq hw25 (Or.inl (by omega)) rfl))))) (e_uq hw61 (Or.inr (by omega)) (e_uq hw57 (Or.inl (by omega)) (e_uq hw54 (Or.inr (by omega)) (e_uq hw37 (Or.inr (by omega)) (e_uq hw25 (Or.inl (by omega)) rfl))))) (fun k q1 q2 => (e_uq hw61 (Or.inr (by omega)) (e_uq hw57 (Or.inl (by omega)) (e_uq hw54 (Or.inr (by omega)) (e_uq hw37 (Or.inr (by omega)) (e_uq hw25 (Or.inl (by omega)) rfl)))))) (by omega) hru
        have erg : w61 330 (10000 * a + (p + 1)) = w 330 (10000 * a + p) := by rw [show 10000 * a + (p + 1) = 10000 * a + p + 1 by omega]; exact Eq.trans (e_uq hw61 (Or.inl (by first | decide | omega)) (e_uq hw57 (Or.inl (by first | decide | omega)) (e_uq hw54 (Or.inl (by first | decide | omega)) (e_uq hw37 (Or.inl (by first | decide | omega)) (e_uq hw25 (Or.inl (by first | decide | omega)) rfl))))) k8.1.2
        have est : w61 276 (1260 * t + 416) = 3 := (e_uq hw61 (Or.inr (by omega)) (e_uq hw57 (Or.inl (by decide)) (e_uq hw54 (Or.inr (e_neo (by decide))) (e_ue hw37))))
        exact ⟨rfl, (show e_fr (mSm t a) w w61 from e_fr.up (show e_fr (mSm t a) w w57 from e_fr.up (show e_fr (mSm t a) w w54 from e_fr.up f38 hw54 (sm_own (by omega))) hw57 (Or.inl (Or.inl (Or.inl ⟨rfl, by decide⟩)))) hw61 (sm_own (by omega))), hT64, by omega, (mMo.same (mMo.same (mMo.same (mMo.same (mMo.same hMo (e_Has.mo hT) (fun c k q => by rw [← hw25]; exact e_up_ne _ _ (q.elim (fun q => moK_275 q (by decide)) (fun q => by omega)))) (e_Has.mo hT29) (fun c k q => by rw [← hw37]; exact e_up_ne _ _ (q.elim (fun q => moK_now q (by omega)) (fun q => by omega)))) (e_Has.mo hT40) (fun c k q => by rw [← hw54]; exact e_up_ne _ _ (q.elim (fun q => moK_now q (by omega)) (fun q => by omega)))) (e_Has.mo hT56) (fun c k q => by rw [← hw57]; exact e_up_ne _ _ (q.elim (fun q => moK_275 q (by decide)) (fun q => by omega)))) (e_Has.mo hT59) (fun c k q => by rw [← hw61]; exact e_up_ne _ _ (q.elim (fun q => moK_now q (by omega)) (fun q => by omega)))), (mOr.fr hOr (by omega) (e_Has.orn hT) (e_Has.orw hT (by omega)) (fun k q => by unfold orK at q; exact (e_uq hw61 (Or.inr (by omega)) (e_uq hw57 (Or.inl (by omega)) (e_uq hw54 (Or.inr (by omega)) (e_uq hw37 (Or.inr (by omega)) (e_uq hw25 (Or.inl (by omega)) rfl))))))), (fun e => by have e1 : w61 276 (1260 * t + 424) = w 276 (1260 * t + 424) := (e_uq hw61 (Or.inr (by omega)) (e_uq hw57 (Or.inl (by omega)) (e_uq hw54 (Or.inr (by omega)) (e_uq hw37 (Or.inr (by omega)) (e_uq hw25 (Or.inl (by omega)) rfl))))); have e2 : w61 276 (1260 * t + 425) = w 276 (1260 * t + 425) := (e_uq hw61 (Or.inr (by omega)) (e_uq hw57 (Or.inl (by omega)) (e_uq hw54 (Or.inr (by omega)) (e_uq hw37 (Or.inr (by omega)) (e_uq hw25 (Or.inl (by omega)) rfl))))); have := hW (by omega); omega), (fun e => by exfalso; omega), Or.inr (Or.inl ⟨(e_uq hw61 (Or.inl (by omega)) (e_ue hw57)), by omega, by obtain ⟨g2, p2, b2, o2, k21, k22, k23, k24⟩ := (show ∃ (g' p' : Int) (bs' ow' : Int → Int), topOk w61 a t g' p' n nt nw dl sg pi an br bs' ow' ∧ dl p' = 0 ∧ True ∧ True from ⟨g, p + 1, bs, ow, runOk.at hrn (by omega) (e_ue hw61) erg, by omega, trivial, trivial⟩); exact ⟨g2, p2, b2, o2, k21, k22⟩⟩)⟩
  · refine e_Ok.sw (tg := 195) rfl (by rw [h1]; rfl) ?_
    have k8 := hi8.out (by omega)
    unfold iS iFT at k8
    have k11 := hi11.out (by omega)
    have k12 := hi12.out (by omega)
    refine e_Ok.run (t' := (196, [(0, (1, 275)), (1, (0, w 328 (10000 * a + p))), (2, (0, w 329 (10000 * a + p))), (3, (0, p))], [(1, 275)], w)) 1 rfl ?_
    refine e_Ok.callV rfl (e_dq hd rfl) rfl rfl rfl rfl (c_364 hT (e := dl p) (u := dl p - 1) h102 (by omega) (by omega) (by have q : w 345 (dl p - 1) = w 345 (dl p - 1) := rfl; have q2 := (hst (dl p - 1) (by omega) (by omega)); omega)) (fun r66 w67 h68 => ?_)
    obtain ⟨rfl, hw67⟩ := h68
    generalize hz69 : w 345 (dl p - 1) = z69
    have z69r : z69 = w 345 (dl p - 1) := Eq.trans hz69.symm rfl
    have z69b : -2147483648 ≤ z69 ∧ z69 ≤ 2147483647 := by rw [← hz69]; exact (by have q : w 345 (dl p - 1) = w 345 (dl p - 1) := rfl; have q2 := (hst (dl p - 1) (by omega) (by omega)); omega)
    have f70 : e_fr (mSm t a) w w67 := e_fr.up (e_fr.refl w) hw67 (Or.inl (Or.inl (Or.inl ⟨rfl, by decide⟩)))
    have hT71 : e_Has mTy w67 := e_Has.ups hT hw67 (mt_o rfl)
    refine e_Ok.nrm (q := 199) (st' := [(0, z69)]) rfl rfl ?_
    refine e_Ok.if1 rfl (fun h72 => ?_) (fun h72 => ?_)
    · replace h72 : (z69 : Int) ≠ 0 := h72
      refine e_Ok.ps3 (x := (0, 1)) (y := (0, p)) (z := (1, 275)) (q := 422) 3 rfl ?_
      refine e_Ok.add (z := p + 1) rfl rfl (by omega) ?_
      refine e_Ok.callV rfl (e_dq hd rfl) rfl rfl rfl rfl (c_365 (e_dq hd rfl) hT71 (by omega) (e_uq hw67 (Or.inr (by omega)) h97) (f := g + 1) (z := 1260 * t + 2 * g + 436) (e_uq hw67 (Or.inl (by first | decide | omega)) hF) (by omega) (by omega)) (fun r73 w74 h75 => ?_)
      obtain ⟨rfl, hw74⟩ := h75
      have hT77 : e_Has mTy w74 := e_Has.upr hT71 hw74 (nR_FRg t (g) (by omega) (by omega) (by omega)) (by omega)
      refine e_Ok.nrm (q := 426) (st' := []) rfl rfl ?_
      refine e_Ok.rets rfl rfl ?_
      have e78 : w74 276 5 = w 276 5 := (e_uq hw74 (Or.inr (by omega)) (e_uq hw67 (Or.inl (by omega)) rfl))
      have hrn := runOk.fr (w' := w74) (fun c k q1 q2 => (e_uq hw74 (Or.inl (by omega)) (e_uq hw67 (Or.inl (by omega)) rfl))) (fun i q1 q2 => ⟨(e_uq hw74 (Or.inr (by omega)) (e_uq hw67 (Or.inl (by omega)) rfl)), (e_uq hw74 (Or.inr (by omega)) (e_uq hw67 (Or.inl (by omega)) rfl))⟩) (e_uq hw74 (Or.inr (by omega)) (e_uq hw67 (Or.inl (by omega)) rfl)) (e_uq hw74 (Or.inr (by omega)) (e_uq hw67 (Or.inl (by omega)) rfl)) (fun k q1 q2 => (e_uq hw74 (Or.inr (by omega)) (e_uq hw67 (Or.inl (by omega)) rfl))) (by omega) hru
      have erg : w74 330 (10000 * a + (p + 1)) = w 330 (10000 * a + p) := by rw [show 10000 * a + (p + 1) = 10000 * a + p + 1 by omega]; exact Eq.trans (e_uq hw74 (Or.inl (by first | decide | omega)) (e_uq hw67 (Or.inl (by first | decide | omega)) rfl)) k8.1.2
      have edp : w74 275 102 = dl p - 1 := (e_uq hw74 (Or.inl (by omega)) (e_ue hw67))
      exact ⟨rfl, (show e_fr (mSm t a) w w74 from e_fr.up f70 hw74 (sm_own (by omega))), hT77, by omega, (mMo.same (mMo.same hMo (e_Has.mo hT) (fun c k q => by rw [← hw67]; exact e_up_ne _ _ (q.elim (fun q => moK_275 q (by decide)) (fun q => by omega)))) (e_Has.mo hT71) (fun c k q => by rw [← hw74]; exact e_up_ne _ _ (q.elim (fun q => moK_now q (by omega)) (fun q => by omega)))), (mOr.fr hOr (by omega) (e_Has.orn hT) (e_Has.orw hT (by omega)) (fun k q => by unfold orK at q; exact (e_uq hw74 (Or.inr (by omega)) (e_uq hw67 (Or.inl (by omega)) rfl)))), (fun e => by have e1 : w74 276 (1260 * t + 424) = w 276 (1260 * t + 424) := (e_uq hw74 (Or.inr (by omega)) (e_uq hw67 (Or.inl (by omega)) rfl)); have e2 : w74 276 (1260 * t + 425) = w 276 (1260 * t + 425) := (e_uq hw74 (Or.inr (by omega)) (e_uq hw67 (Or.inl (by omega)) rfl)); have := hW (by omega); omega), (fun e => by exfalso; omega), Or.inr (Or.inr ⟨(e_uq hw74 (Or.inl (by omega)) (e_uq hw67 (Or.inr (by omega)) rfl)), (e_uq hw74 (Or.inr (by omega)) (e_uq hw67 (Or.inl (by omega)) h416)), by omega, by omega, ⟨g, p + 1, bs, ow, runOk.at hrn (by omega) (e_ue hw74) erg, by omega, by omega, Or.inl (by omega)⟩⟩)⟩
    · replace h72 : (z69 : Int) = 0 := Classical.not_not.mp (show ¬ ((z69 : Int) ≠ 0) from h72)
      refine e_Ok.ps1 (x := (1, 275)) (q := 203) 1 rfl ?_
      refine e_Ok.getr (z := 276) rfl (el_o rfl) rfl (ef_o rfl) (e_uq hw67 (Or.inr (by omega)) (e_Has.eq hT (mt_o rfl))) ⟨by decide, by decide⟩ ?_
      refine e_Ok.ps1 (x := (1, 275)) (q := 207) 1 rfl ?_
      refine e_Ok.getf (z := 1260 * t + 416) rfl (el_o rfl) rfl (ef_o rfl) (e_uq hw67 (Or.inr (by omega)) h97) (by omega) ?_
      refine e_Ok.ps1 (x := (0, 4)) (q := 211) 1 rfl ?_
      refine e_Ok.ast rfl (el_o rfl) rfl rfl (by omega) ?_
      generalize hw79 : e_up w67 276 (1260 * t + 416) 4 = w79
      have hT81 : e_Has mTy w79 := e_Has.upr hT71 hw79 (nR_TSTATE (t := t) (by omega)) (by omega)
      refine e_Ok.ps2 (x := (0, 1)) (y := (1, 275)) (q := 214) 2 rfl ?_
      refine e_Ok.putb rfl (el_o rfl) rfl (ef_o rfl) (by omega) ?_
      generalize hw82 : e_up w79 275 100 1 = w82
      have hT84 : e_Has mTy w82 := e_Has.ups hT81 hw82 (mt_o rfl)
      refine e_Ok.ps2 (x := (0, w 329 (10000 * a + p))) (y := (1, 275)) (q := 219) 2 rfl ?_
      refine e_Ok.callV rfl (e_dq hd rfl) rfl rfl rfl rfl (c_365 (e_dq hd rfl) hT84 (by omega) (e_uq hw82 (Or.inr (by first | decide | omega)) (e_uq hw79 (Or.inl (by first | decide | omega)) (e_uq hw67 (Or.inr (by omega)) h97))) (f := g + 1) (z := 1260 * t + 2 * g + 436) (e_uq hw82 (Or.inl (by first | decide | omega)) (e_uq hw79 (Or.inr (by omega)) (e_uq hw67 (Or.inl (by first | decide | omega)) hF))) (by omega) (by omega)) (fun r85 w86 h87 => ?_)
      obtain ⟨rfl, hw86⟩ := h87
      have hT89 : e_Has mTy w86 := e_Has.upr hT84 hw86 (nR_FRg t (g) (by omega) (by omega) (by omega)) (by omega)
      refine e_Ok.nrm (q := 222) (st' := []) rfl rfl ?_
      refine e_Ok.rets rfl rfl ?_
      have e90 : w86 276 5 = w 276 5 := (e_uq hw86 (Or.inr (by omega)) (e_uq hw82 (Or.inl (by decide)) (e_uq hw79 (Or.inr (by omega)) (e_uq hw67 (Or.inl (by omega)) rfl))))
      have hrn := runOk.fr (w' := w86) (fun c k q1 q2 => (e_uq hw86 (Or.inl (by omega)) (e_uq hw82 (Or.inl (by omega)) (e_uq hw79 (Or.inl (by omega)) (e_uq hw67 (Or.inl (by omega)) rfl))))) (fun i q1 q2 => ⟨(e_uq hw86 (Or.inr (by omega)) (e_uq hw82 (Or.inl (by omega)) (e_uq hw79 (Or.inr (by omega)) (e_uq hw67 (Or.inl (by omega)) rfl)))), (e_uq hw86 (Or.inr (by omega)) (e_uq hw82 (Or.inl (by omega)) (e_uq hw79 (Or.inr (by omega)) (e_uq hw67 (Or.inl (by omega)) rfl))))⟩) (e_uq hw86 (Or.inr (by omega)) (e_uq hw82 (Or.inl (by omega)) (e_uq hw79 (Or.inr (by omega)) (e_uq hw67 (Or.inl (by omega)) rfl)))) (e_uq hw86 (Or.inr (by omega)) (e_uq hw82 (Or.inl (by omega)) (e_uq hw79 (Or.inr (by omega)) (e_uq hw67 (Or.inl (by omega)) rfl)))) (fun k q1 q2 => (e_uq hw86 (Or.inr (by omega)) (e_uq hw82 (Or.inl (by omega)) (e_uq hw79 (Or.inr (by omega)) (e_uq hw67 (Or.inl (by omega)) rfl))))) (by omega) hru
      have erg : w86 330 (10000 * a + (w 329 (10000 * a + p))) = w 330 (10000 * a + p) := Eq.trans (show w86 330 (10000 * a + (w 329 (10000 * a + p))) = w 330 (10000 * a + (w 329 (10000 * a + p))) from (e_uq hw86 (Or.inl (by first | decide | omega)) (e_uq hw82 (Or.inl (by first | decide | omega)) (e_uq hw79 (Or.inl (by first | decide | omega)) (e_uq hw67 (Or.inl (by first | decide | omega)) rfl))))) (by omega)
      have est : w86 276 (1260 * t + 416) = 4 := (e_uq hw86 (Or.inr (by omega)) (e_uq hw82 (Or.inl (by decide)) (e_ue hw79)))
      exact ⟨rfl, (show e_fr (mSm t a) w w86 from e_fr.up (show e_fr (mSm t a) w w82 from e_fr.up (show e_fr (mSm t a) w w79 from e_fr.up f70 hw79 (sm_own (by omega))) hw82 (Or.inl (Or.inl (Or.inl ⟨rfl, by decide⟩)))) hw86 (sm_own (by omega))), hT89, by omega, (mMo.same (mMo.same (mMo.same (mMo.same hMo (e_Has.mo hT) (fun c k q => by rw [← hw67]; exact e_up_ne _ _ (q.elim (fun q => moK_275 q (by decide)) (fun q => by omega)))) (e_Has.mo hT71) (fun c k q => by rw [← hw79]; exact e_up_ne _ _ (q.elim (fun q => moK_now q (by omega)) (fun q => by omega)))) (e_Has.mo hT81) (fun c k q => by rw [← hw82]; exact e_up_ne _ _ (q.elim (fun q => moK_275 q (by decide)) (fun q => by omega)))) (e_Has.mo hT84) (fun c k q => by rw [← hw86]; exact e_up_ne _ _ (q.elim (fun q => moK_now q (by omega)) (fun q => by omega)))), (mOr.fr hOr (by omega) (e_Has.orn hT) (e_Has.orw hT (by omega)) (fun k q => by unfold orK at q; exact (e_uq hw86 (Or.inr (by omega)) (e_uq hw82 (Or.inl (by omega)) (e_uq hw79 (Or.inr (by omega)) (e_uq hw67 (Or.inl (by omega)) rfl)))))), (fun e => by have e1 : w86 276 (1260 * t + 424) = w 276 (1260 * t + 424) := (e_uq hw86 (Or.inr (by omega)) (e_uq hw82 (Or.inl (by omega)) (e_uq hw79 (Or.inr (by omega)) (e_uq hw67 (Or.inl (by omega)) rfl)))); have e2 : w86 276 (1260 * t + 425) = w 276 (1260 * t + 425) := (e_uq hw86 (Or.inr (by omega)) (e_uq hw82 (Or.inl (by omega)) (e_uq hw79 (Or.inr (by omega)) (e_uq hw67 (Or.inl (by omega)) rfl)))); have := hW (by omega); omega), (fun e => by exfalso; omega), Or.inr (Or.inl ⟨(e_uq hw86 (Or.inl (by omega)) (e_ue hw82)), by omega, by obtain ⟨g2, p2, b2, o2, k21, k22, k23, k24⟩ := (show ∃ (g' p' : Int) (bs' ow' : Int → Int), topOk w86 a t g' p' n nt nw dl sg pi an br bs' ow' ∧ dl p' = 0 ∧ True ∧ True from ⟨g, w 329 (10000 * a + p), bs, ow, runOk.at hrn (by omega) (e_ue hw86) erg, by omega, trivial, trivial⟩); exact ⟨g2, p2, b2, o2, k21, k22⟩⟩)⟩
  · refine e_Ok.sw (tg := 399) rfl (by rcases h1 with h1 | h1 | h1 | h1 | h1 | h1 <;> (rw [h1]; rfl)) ?_
    have k8 := hi8.out (by omega)
    unfold iS iFT at k8
    refine e_Ok.run (t' := (402, [(0, (1, 275)), (1, (0, w 328 (10000 * a + p))), (2, (0, w 329 (10000 * a + p))), (3, (0, p))], [(0, w 329 (10000 * a + p)), (0, w 328 (10000 * a + p)), (1, 275)], w)) 3 rfl ?_
    refine e_Ok.callV rfl (e_dq hd rfl) rfl rfl rfl rfl (c_378 (e_dq hd rfl) hT hA hOr (by omega) (by omega) h96 h97 h98 (by omega) (fun e => hi13.out e) (fun e => hi11.out (by omega)) (fun e => hi14.out (by omega)) (fun e => hi15.out (by omega)) hW h102 hst (by omega)) (fun r91 w92 h93 => ?_)
    obtain ⟨z94, rfl, q95z, q95, q95T, q95n, q95o, q95f, q95d, q95w, q95c⟩ := h93
    have f101 : e_fr (mSm t a) w w92 := e_fr.trans (e_fr.refl w) (e_fr.mono q95 (fun c k q => by exact Or.inr (Or.inl q)))
    obtain ⟨q95i, q95s⟩ | ⟨rfl, q95i, q95s⟩ := q95c
    · refine e_Ok.nrm (q := 405) (st' := [(0, z94)]) rfl rfl ?_
      refine e_Ok.run (t' := (409, [(6, (0, z94)), (0, (1, 275)), (1, (0, w 328 (10000 * a + p))), (2, (0, w 329 (10000 * a + p))), (3, (0, p))], [(0, z94)], w92)) 2 rfl ?_
      refine e_Ok.if1 rfl (fun h103 => ?_) (fun h103 => ?_)
      · replace h103 : (z94 : Int) = 0 := h103
        refine e_Ok.ps3 (x := (0, 1)) (y := (0, p)) (z := (1, 275)) (q := 422) 3 rfl ?_
        refine e_Ok.add (z := p + 1) rfl rfl (by omega) ?_
        refine e_Ok.callV rfl (e_dq hd rfl) rfl rfl rfl rfl (c_365 (e_dq hd rfl) q95T (by omega) ((q95 275 97 (by first | exact no_87_2 | (unfold mOt mGr; omega))).trans h97) (f := g + 1) (z := 1260 * t + 2 * g + 436) ((q95 276 (1260 * t + 428) (by first | exact no_87_3 (by omega) | (unfold mOt mGr; omega))).trans hF) (by omega) (by omega)) (fun r104 w105 h106 => ?_)
        obtain ⟨rfl, hw105⟩ := h106
        have hT108 : e_Has mTy w105 := e_Has.upr q95T hw105 (nR_FRg t (g) (by omega) (by omega) (by omega)) (by omega)
        refine e_Ok.nrm (q := 426) (st' := []) rfl rfl ?_
        refine e_Ok.rets rfl rfl ?_
        have e109 : w105 276 5 = w92 276 5 := (e_uq hw105 (Or.inr (by omega)) rfl)
        have hrn := runOk.fr (w' := w105) (fun c k q1 q2 => (e_uq hw105 (Or.inl (by omega)) ((q95 c k (by unfold mOt mGr; omega)).trans rfl))) (fun i q1 q2 => ⟨(e_uq hw105 (Or.inr (by omega)) ((q95 276 (1260 * t + 2 * i + 436) (by first | exact no_87_4 (by omega) (by omega) | (unfold mOt mGr; omega))).trans rfl)), (e_uq hw105 (Or.inr (by omega)) ((q95 276 (1260 * t + 2 * i + 439) (by first | exact no_87_5 (by omega) (by omega) | (unfold mOt mGr; omega))).trans rfl))⟩) (e_uq hw105 (Or.inr (by omega)) ((q95 276 (1260 * t + 428) (by first | exact no_87_3 (by omega) | (unfold mOt mGr; omega))).trans rfl)) (e_uq hw105 (Or.inr (by omega)) ((q95 276 (1260 * t + 429) (by first | exact no_87_6 (by omega) | (unfold mOt mGr; omega))).trans rfl)) (fun k q1 q2 => (e_uq hw105 (Or.inr (by omega)) ((q95 276 (1260 * t + k + 476) (by unfold mOt mGr; omega)).trans rfl))) (by omega) hru
        have erg : w105 330 (10000 * a + (p + 1)) = w 330 (10000 * a + p) := by rw [show 10000 * a + (p + 1) = 10000 * a + p + 1 by omega]; exact Eq.trans (e_uq hw105 (Or.inl (by first | decide | omega)) ((q95 330 (10000 * a + p + 1) (by first | exact no_87_7 | (unfold mOt mGr; omega))).trans rfl)) k8.1.2
        have edp : w105 275 102 = 0 := (e_uq hw105 (Or.inl (by omega)) q95d)
        exact ⟨rfl, (show e_fr (mSm t a) w w105 from e_fr.up f101 hw105 (sm_own (by omega))), hT108, by omega, (mMo.same (mMo.old hMo (e_Has.mo hT) (fun b g1 g2 => ⟨q95 276 _ (mOt_st ht g1 g2 (by decide)), q95 276 _ (mOt_st ht g1 g2 (by decide))⟩) (fun c k q q2 => q95 c k (moK_ot ht q q2)) q95f) (e_Has.mo q95T) (fun c k q => by rw [← hw105]; exact e_up_ne _ _ (q.elim (fun q => moK_now q (by omega)) (fun q => by omega)))), (mOr.fr q95o (by omega) (e_Has.orn q95T) (e_Has.orw q95T (by omega)) (fun k q => by unfold orK at q; exact (e_uq hw105 (Or.inr (by omega)) rfl))), (fun e => by have e1 : w105 276 (1260 * t + 424) = w92 276 (1260 * t + 424) := (e_uq hw105 (Or.inr (by omega)) rfl); have e2 : w105 276 (1260 * t + 425) = w92 276 (1260 * t + 425) := (e_uq hw105 (Or.inr (by omega)) rfl); have := q95w (by omega); omega), (fun e => by exfalso; omega), Or.inr (Or.inr ⟨(e_uq hw105 (Or.inl (by omega)) q95i), (e_uq hw105 (Or.inr (by omega)) (Eq.trans q95s h416)), by omega, by omega, ⟨g, p + 1, bs, ow, runOk.at hrn (by omega) (e_ue hw105) erg, by omega, by omega, Or.inl (by omega)⟩⟩)⟩
      · replace h103 : (z94 : Int) ≠ 0 := (show ¬ ((z94 : Int) = 0) from h103)
        refine e_Ok.ps2 (x := (0, z94)) (y := (1, 275)) (q := 415) 2 rfl ?_
        have e113 : w92 276 5 = w92 276 5 := rfl
        refine e_Ok.callV rfl (e_dq hd rfl) rfl rfl rfl rfl (c_369 (e_dq hd rfl) q95T (by omega) (by omega) ((q95 275 96 (by first | exact no_87_8 | (unfold mOt mGr; omega))).trans h96) ((q95 275 97 (by first | exact no_87_2 | (unfold mOt mGr; omega))).trans h97) ((q95 275 98 (by first | exact no_87_9 | (unfold mOt mGr; omega))).trans h98) (cOk.fr (fun c k q1 q2 => ((q95 c k (by unfold mOt mGr; omega)).trans rfl)) hC) (runOk.at (runOk.fr (w' := w92) (fun c k q1 q2 => ((q95 c k (by unfold mOt mGr; omega)).trans rfl)) (fun i q1 q2 => ⟨((q95 276 (1260 * t + 2 * i + 436) (by first | exact no_87_4 (by omega) (by omega) | (unfold mOt mGr; omega))).trans rfl), ((q95 276 (1260 * t + 2 * i + 439) (by first | exact no_87_5 (by omega) (by omega) | (unfold mOt mGr; omega))).trans rfl)⟩) ((q95 276 (1260 * t + 428) (by first | exact no_87_3 (by omega) | (unfold mOt mGr; omega))).trans rfl) ((q95 276 (1260 * t + 429) (by first | exact no_87_6 (by omega) | (unfold mOt mGr; omega))).trans rfl) (fun k q1 q2 => ((q95 276 (1260 * t + k + 476) (by unfold mOt mGr; omega)).trans rfl)) (by omega) hru) (by omega) ((q95 276 (1260 * t + 2 * g + 436) (by first | exact no_87_10 (by omega) (by omega) | (unfold mOt mGr; omega))).trans hpc) ((q95 330 (10000 * a + p) (by first | exact no_87_7 | (unfold mOt mGr; omega))).trans rfl)) (by omega) (by omega)) (fun r110 w111 h112 => ?_)
        obtain ⟨rfl, ⟨q114, q114S⟩, q114T, q114n, q114d, q114c⟩ := h112
        refine e_Ok.nrm (q := 418) (st' := []) rfl rfl ?_
        refine e_Ok.rets rfl rfl ?_
        have e116 : w111 276 5 = w111 276 5 := rfl
        exact ⟨rfl, (show e_fr (mSm t a) w w111 from e_fr.trans f101 (e_fr.mono q114 (fun c k q => by exact Or.inl (Or.inl q)))), q114T, by omega, (mMo.rel (mMo.old hMo (e_Has.mo hT) (fun b g1 g2 => ⟨q95 276 _ (mOt_st ht g1 g2 (by decide)), q95 276 _ (mOt_st ht g1 g2 (by decide))⟩) (fun c k q q2 => q95 c k (moK_ot ht q q2)) q95f) (e_Has.mo q95T) (mCf.fr hCf (fun c k q => ((q95 c k (by unfold mOt mGr; omega)).trans rfl))) q114S (fun c k q => q114 c k (moK_lv ht q))), (mOr.fr q95o (by omega) (e_Has.orn q95T) (e_Has.orw q95T (by omega)) (fun k q => by unfold orK at q; exact ((q114 276 k (by unfold mLv; omega)).trans rfl))), (fun e => by have e1 : w111 276 (1260 * t + 424) = w92 276 (1260 * t + 424) := ((q114 276 (1260 * t + 424) (by first | exact no_87_11 (by omega) | (unfold mLv; omega))).trans rfl); have e2 : w111 276 (1260 * t + 425) = w92 276 (1260 * t + 425) := ((q114 276 (1260 * t + 425) (by first | exact no_87_12 (by omega) | (unfold mLv; omega))).trans rfl); have := q95w (by omega); omega), (fun e => by exfalso; omega), q114c.elim (fun h => Or.inl h) (fun h => Or.inr (Or.inr ⟨h.1.trans q95i, h.2.1.trans (show w92 276 (1260 * t + 416) = 1 from (Eq.trans q95s h416)), q114d, by have := h.2.2.1; omega, by obtain ⟨g2, p2, b2, o2, k21, k22, k23, k24, k25⟩ := h.2.2.2; exact ⟨g2, p2, b2, o2, k23, k24, k25, Or.inr (Or.inl ⟨k21, k22⟩)⟩⟩))⟩
    · refine e_Ok.nrm (q := 405) (st' := [(0, 0)]) rfl rfl ?_
      refine e_Ok.run (t' := (409, [(6, (0, 0)), (0, (1, 275)), (1, (0, w 328 (10000 * a + p))), (2, (0, w 329 (10000 * a + p))), (3, (0, p))], [(0, 0)], w92)) 2 rfl ?_
      refine e_Ok.if1 rfl (fun h117 => ?_) (fun h117 => ?_)
      · replace h117 : (0 : Int) = 0 := h117
        refine e_Ok.ps3 (x := (0, 1)) (y := (0, p)) (z := (1, 275)) (q := 422) 3 rfl ?_
        refine e_Ok.add (z := p + 1) rfl rfl (by omega) ?_
        refine e_Ok.callV rfl (e_dq hd rfl) rfl rfl rfl rfl (c_365 (e_dq hd rfl) q95T (by omega) ((q95 275 97 (by first | exact no_87_2 | (unfold mOt mGr; omega))).trans h97) (f := g + 1) (z := 1260 * t + 2 * g + 436) ((q95 276 (1260 * t + 428) (by first | exact no_87_3 (by omega) | (unfold mOt mGr; omega))).trans hF) (by omega) (by omega)) (fun r118 w119 h120 => ?_)
        obtain ⟨rfl, hw119⟩ := h120
        have hT122 : e_Has mTy w119 := e_Has.upr q95T hw119 (nR_FRg t (g) (by omega) (by omega) (by omega)) (by omega)
        refine e_Ok.nrm (q := 426) (st' := []) rfl rfl ?_
        refine e_Ok.rets rfl rfl ?_
        have e123 : w119 276 5 = w92 276 5 := (e_uq hw119 (Or.inr (by omega)) rfl)
        have hrn := runOk.fr (w' := w119) (fun c k q1 q2 => (e_uq hw119 (Or.inl (by omega)) ((q95 c k (by unfold mOt mGr; omega)).trans rfl))) (fun i q1 q2 => ⟨(e_uq hw119 (Or.inr (by omega)) ((q95 276 (1260 * t + 2 * i + 436) (by first | exact no_87_4 (by omega) (by omega) | (unfold mOt mGr; omega))).trans rfl)), (e_uq hw119 (Or.inr (by omega)) ((q95 276 (1260 * t + 2 * i + 439) (by first | exact no_87_5 (by omega) (by omega) | (unfold mOt mGr; omega))).trans rfl))⟩) (e_uq hw119 (Or.inr (by omega)) ((q95 276 (1260 * t + 428) (by first | exact no_87_3 (by omega) | (unfold mOt mGr; omega))).trans rfl)) (e_uq hw119 (Or.inr (by omega)) ((q95 276 (1260 * t + 429) (by first | exact no_87_6 (by omega) | (unfold mOt mGr; omega))).trans rfl)) (fun k q1 q2 => (e_uq hw119 (Or.inr (by omega)) ((q95 276 (1260 * t + k + 476) (by unfold mOt mGr; omega)).trans rfl))) (by omega) hru
        have erg : w119 330 (10000 * a + (p + 1)) = w 330 (10000 * a + p) := by rw [show 10000 * a + (p + 1) = 10000 * a + p + 1 by omega]; exact Eq.trans (e_uq hw119 (Or.inl (by first | decide | omega)) ((q95 330 (10000 * a + p + 1) (by first | exact no_87_7 | (unfold mOt mGr; omega))).trans rfl)) k8.1.2
        have est : w119 276 (1260 * t + 416) = 5 := (e_uq hw119 (Or.inr (by omega)) q95s)
        exact ⟨rfl, (show e_fr (mSm t a) w w119 from e_fr.up f101 hw119 (sm_own (by omega))), hT122, by omega, (mMo.same (mMo.old hMo (e_Has.mo hT) (fun b g1 g2 => ⟨q95 276 _ (mOt_st ht g1 g2 (by decide)), q95 276 _ (mOt_st ht g1 g2 (by decide))⟩) (fun c k q q2 => q95 c k (moK_ot ht q q2)) q95f) (e_Has.mo q95T) (fun c k q => by rw [← hw119]; exact e_up_ne _ _ (q.elim (fun q => moK_now q (by omega)) (fun q => by omega)))), (mOr.fr q95o (by omega) (e_Has.orn q95T) (e_Has.orw q95T (by omega)) (fun k q => by unfold orK at q; exact (e_uq hw119 (Or.inr (by omega)) rfl))), (fun e => by have e1 : w119 276 (1260 * t + 424) = w92 276 (1260 * t + 424) := (e_uq hw119 (Or.inr (by omega)) rfl); have e2 : w119 276 (1260 * t + 425) = w92 276 (1260 * t + 425) := (e_uq hw119 (Or.inr (by omega)) rfl); have := q95w (by omega); omega), (fun e => by exfalso; omega), Or.inr (Or.inl ⟨(e_uq hw119 (Or.inl (by omega)) q95i), by omega, by obtain ⟨g2, p2, b2, o2, k21, k22, k23, k24⟩ := (show ∃ (g' p' : Int) (bs' ow' : Int → Int), topOk w119 a t g' p' n nt nw dl sg pi an br bs' ow' ∧ dl p' = 0 ∧ True ∧ True from ⟨g, p + 1, bs, ow, runOk.at hrn (by omega) (e_ue hw119) erg, by omega, trivial, trivial⟩); exact ⟨g2, p2, b2, o2, k21, k22⟩⟩)⟩
      · replace h117 : (0 : Int) ≠ 0 := (show ¬ ((0 : Int) = 0) from h117)
        exfalso; omega
  · refine e_Ok.sw (tg := 248) rfl (by rw [h1]; rfl) ?_
    have k8 := hi8.out (by omega)
    unfold iS iFT at k8
    have k14 := hi14.out (by omega)
    have k15 := hi15.out (by omega)
    refine e_Ok.run (t' := (251, [(0, (1, 275)), (1, (0, w 328 (10000 * a + p))), (2, (0, w 329 (10000 * a + p))), (3, (0, p))], [(0, 0), (0, w 329 (10000 * a + p)), (1, 275)], w)) 3 rfl ?_
    refine e_Ok.callV rfl (e_dq hd rfl) rfl rfl rfl rfl (c_367 (e_dq hd rfl) hT (by omega) (by omega) h96 h97 h98 (cOk.fr (fun c k q1 q2 => rfl) hC) (runOk.at (runOk.fr (w' := w) (fun c k q1 q2 => rfl) (fun i q1 q2 => ⟨rfl, rfl⟩) rfl rfl (fun k q1 q2 => rfl) (by omega) hru) (by omega) hpc rfl) (by omega) ⟨k15.1, k15.2⟩ (by omega) (fun _ => ⟨k8.1, k8.2.1, k8.2.2.1⟩) (fun e => by omega)) (fun r124 w125 h126 => ?_)
    obtain ⟨rfl, ⟨q127, q127S⟩, q127T, q127n, q127c⟩ := h126
    refine e_Ok.nrm (q := 254) (st' := []) rfl rfl ?_
    refine e_Ok.rets rfl rfl ?_
    have e129 : w125 276 5 = w125 276 5 := rfl
    exact ⟨rfl, (show e_fr (mSm t a) w w125 from e_fr.trans (e_fr.refl w) (e_fr.mono q127 (fun c k q => by exact Or.inl (Or.inl q)))), q127T, by omega, (mMo.rel hMo (e_Has.mo hT) hCf q127S (fun c k q => q127 c k (moK_lv ht q))), (mOr.fr hOr (by omega) (e_Has.orn hT) (e_Has.orw hT (by omega)) (fun k q => by unfold orK at q; exact ((q127 276 k (by unfold mLv; omega)).trans rfl))), (fun e => by have e1 : w125 276 (1260 * t + 424) = w 276 (1260 * t + 424) := ((q127 276 (1260 * t + 424) (by first | exact no_87_11 (by omega) | (unfold mLv; omega))).trans rfl); have e2 : w125 276 (1260 * t + 425) = w 276 (1260 * t + 425) := ((q127 276 (1260 * t + 425) (by first | exact no_87_12 (by omega) | (unfold mLv; omega))).trans rfl); have := hW (by omega); omega), (fun e => by exfalso; omega), q127c.elim (fun hh => hh.2.elim (fun h => Or.inl h) (fun h => Or.inr (Or.inr ⟨h.1.trans rfl, h.2.1.trans (show w 276 (1260 * t + 416) = 1 from h416), hh.1, by have := h.2.2.1; omega, by obtain ⟨g2, p2, b2, o2, k21, k22, k23, k24, k25⟩ := h.2.2.2; exact ⟨g2, p2, b2, o2, k23, k24, k25, Or.inr (Or.inl ⟨k21, k22⟩)⟩⟩))) (fun h => Or.inr (Or.inr ⟨h.2.1, h.2.2.1.trans h416, h.1.trans (by omega), by have := h.2.2.2.1; omega, by obtain ⟨p2, b2, o2, k21, k22, k23⟩ := h.2.2.2.2.2; exact ⟨g + 1, p2, b2, o2, k21, k22, k23, Or.inl (by omega)⟩⟩))⟩
  · refine e_Ok.sw (tg := 223) rfl (by rw [h1]; rfl) ?_
    have k8 := hi8.out (by omega)
    unfold iS iFT at k8
    have k11 := hi11.out (by omega)
    refine e_Ok.run (t' := (225, [(0, (1, 275)), (1, (0, w 328 (10000 * a + p))), (2, (0, w 329 (10000 * a + p))), (3, (0, p))], [(1, 275), (1, 275)], w)) 2 rfl ?_
    refine e_Ok.callV rfl (e_dq hd rfl) rfl rfl rfl rfl (c_364 hT (e := dl p) (u := dl p - 1) h102 (by omega) (by omega) (by have q : w 345 (dl p - 1) = w 345 (dl p - 1) := rfl; have q2 := (hst (dl p - 1) (by omega) (by omega)); omega)) (fun r130 w131 h132 => ?_)
    obtain ⟨rfl, hw131⟩ := h132
    generalize hz133 : w 345 (dl p - 1) = z133
    have z133r : z133 = w 345 (dl p - 1) := Eq.trans hz133.symm rfl
    have z133b : -2147483648 ≤ z133 ∧ z133 ≤ 2147483647 := by rw [← hz133]; exact (by have q : w 345 (dl p - 1) = w 345 (dl p - 1) := rfl; have q2 := (hst (dl p - 1) (by omega) (by omega)); omega)
    have hT135 : e_Has mTy w131 := e_Has.ups hT hw131 (mt_o rfl)
    refine e_Ok.nrm (q := 228) (st' := [(0, z133), (1, 275)]) rfl rfl ?_
    have e139 : w131 276 5 = w 276 5 := (e_uq hw131 (Or.inl (by omega)) rfl)
    refine e_Ok.callV rfl (e_dq hd rfl) rfl rfl rfl rfl (c_369 (e_dq hd rfl) hT135 (by omega) (by omega) (e_uq hw131 (Or.inr (by omega)) h96) (e_uq hw131 (Or.inr (by omega)) h97) (e_uq hw131 (Or.inr (by omega)) h98) (cOk.fr (fun c k q1 q2 => (e_uq hw131 (Or.inl (by omega)) rfl)) hC) (runOk.at (runOk.fr (w' := w131) (fun c k q1 q2 => (e_uq hw131 (Or.inl (by omega)) rfl)) (fun i q1 q2 => ⟨(e_uq hw131 (Or.inl (by omega)) rfl), (e_uq hw131 (Or.inl (by omega)) rfl)⟩) (e_uq hw131 (Or.inl (by omega)) rfl) (e_uq hw131 (Or.inl (by omega)) rfl) (fun k q1 q2 => (e_uq hw131 (Or.inl (by omega)) rfl)) (by omega) hru) (by omega) (e_uq hw131 (Or.inl (by omega)) hpc) (e_uq hw131 (Or.inl (by omega)) rfl)) (by omega) (by omega)) (fun r136 w137 h138 => ?_)
    obtain ⟨rfl, ⟨q140, q140S⟩, q140T, q140n, q140d, q140c⟩ := h138
    refine e_Ok.nrm (q := 231) (st' := []) rfl rfl ?_
    refine e_Ok.rets rfl rfl ?_
    have e142 : w137 276 5 = w137 276 5 := rfl
    exact ⟨rfl, (show e_fr (mSm t a) w w137 from e_fr.trans (show e_fr (mSm t a) w w131 from e_fr.up (e_fr.refl w) hw131 (Or.inl (Or.inl (Or.inl ⟨rfl, by decide⟩)))) (e_fr.mono q140 (fun c k q => by exact Or.inl (Or.inl q)))), q140T, by omega, (mMo.rel (mMo.same hMo (e_Has.mo hT) (fun c k q => by rw [← hw131]; exact e_up_ne _ _ (q.elim (fun q => moK_275 q (by decide)) (fun q => by omega)))) (e_Has.mo hT135) (mCf.fr hCf (fun c k q => (e_uq hw131 (Or.inl (by omega)) rfl))) q140S (fun c k q => q140 c k (moK_lv ht q))), (mOr.fr hOr (by omega) (e_Has.orn hT) (e_Has.orw hT (by omega)) (fun k q => by unfold orK at q; exact ((q140 276 k (by unfold mLv; omega)).trans (e_uq hw131 (Or.inl (by omega)) rfl)))), (fun e => by have e1 : w137 276 (1260 * t + 424) = w 276 (1260 * t + 424) := ((q140 276 (1260 * t + 424) (by first | exact no_87_11 (by omega) | (unfold mLv; omega))).trans (e_uq hw131 (Or.inl (by omega)) rfl)); have e2 : w137 276 (1260 * t + 425) = w 276 (1260 * t + 425) := ((q140 276 (1260 * t + 425) (by first | exact no_87_12 (by omega) | (unfold mLv; omega))).trans (e_uq hw131 (Or.inl (by omega)) rfl)); have := hW (by omega); omega), (fun e => by exfalso; omega), q140c.elim (fun h => Or.inl h) (fun h => Or.inr (Or.inr ⟨h.1.trans (e_uq hw131 (Or.inr (by omega)) rfl), h.2.1.trans (show w131 276 (1260 * t + 416) = 1 from (e_uq hw131 (Or.inl (by omega)) h416)), q140d, by have := h.2.2.1; omega, by obtain ⟨g2, p2, b2, o2, k21, k22, k23, k24, k25⟩ := h.2.2.2; exact ⟨g2, p2, b2, o2, k23, k24, k25, Or.inr (Or.inl ⟨k21, k22⟩)⟩⟩))⟩
  · refine e_Ok.sw (tg := 232) rfl (by rw [h1]; rfl) ?_
    have k8 := hi8.out (by omega)
    unfold iS iFT at k8
    have k11 := hi11.out (by omega)
    refine e_Ok.run (t' := (235, [(0, (1, 275)), (1, (0, w 328 (10000 * a + p))), (2, (0, w 329 (10000 * a + p))), (3, (0, p))], [(1, 275), (0, 1), (1, 275)], w)) 3 rfl ?_
    refine e_Ok.getf (z := t) rfl (el_o rfl) rfl (ef_o rfl) h96 (by omega) ?_
    refine e_Ok.ps1 (x := (1, 275)) (q := 239) 1 rfl ?_
    refine e_Ok.callV rfl (e_dq hd rfl) rfl rfl rfl rfl (c_364 hT (e := dl p) (u := dl p - 1) h102 (by omega) (by omega) (by have q : w 345 (dl p - 1) = w 345 (dl p - 1) := rfl; have q2 := (hst (dl p - 1) (by omega) (by omega)); omega)) (fun r143 w144 h145 => ?_)
    obtain ⟨rfl, hw144⟩ := h145
    generalize hz146 : w 345 (dl p - 1) = z146
    have z146r : z146 = w 345 (dl p - 1) := Eq.trans hz146.symm rfl
    have z146b : -2147483648 ≤ z146 ∧ z146 ≤ 2147483647 := by rw [← hz146]; exact (by have q : w 345 (dl p - 1) = w 345 (dl p - 1) := rfl; have q2 := (hst (dl p - 1) (by omega) (by omega)); omega)
    have hT148 : e_Has mTy w144 := e_Has.ups hT hw144 (mt_o rfl)
    refine e_Ok.nrm (q := 242) (st' := [(0, z146), (0, t), (0, 1), (1, 275)]) rfl rfl ?_
    have e152 : w144 276 5 = w 276 5 := (e_uq hw144 (Or.inl (by omega)) rfl)
    refine e_Ok.callV rfl (e_dq hd rfl) rfl rfl rfl rfl (c_319 hT148 (by omega) (by omega) (by omega) (by omega)) (fun r149 w150 h151 => ?_)
    obtain ⟨rfl, q153, q153T, q153n⟩ := h151
    refine e_Ok.nrm (q := 245) (st' := []) rfl rfl ?_
    refine e_Ok.ps3 (x := (0, 1)) (y := (0, p)) (z := (1, 275)) (q := 422) 4 rfl ?_
    refine e_Ok.add (z := p + 1) rfl rfl (by omega) ?_
    refine e_Ok.callV rfl (e_dq hd rfl) rfl rfl rfl rfl (c_365 (e_dq hd rfl) q153T (by omega) ((q153 275 97 no_87_13).trans (e_uq hw144 (Or.inr (by omega)) h97)) (f := g + 1) (z := 1260 * t + 2 * g + 436) ((q153 276 (1260 * t + 428) (by first | exact no_87_14 (by omega) | (unfold mE; omega))).trans (e_uq hw144 (Or.inl (by first | decide | omega)) hF)) (by omega) (by omega)) (fun r155 w156 h157 => ?_)
    obtain ⟨rfl, hw156⟩ := h157
    have hT159 : e_Has mTy w156 := e_Has.upr q153T hw156 (nR_FRg t (g) (by omega) (by omega) (by omega)) (by omega)
    refine e_Ok.nrm (q := 426) (st' := []) rfl rfl ?_
    refine e_Ok.rets rfl rfl ?_
    have e160 : w156 276 5 = w150 276 5 := (e_uq hw156 (Or.inr (by omega)) rfl)
    have hrn := runOk.fr (w' := w156) (fun c k q1 q2 => (e_uq hw156 (Or.inl (by omega)) ((q153 c k (by unfold mE; omega)).trans (e_uq hw144 (Or.inl (by omega)) rfl)))) (fun i q1 q2 => ⟨(e_uq hw156 (Or.inr (by omega)) ((q153 276 (1260 * t + 2 * i + 436) (by first | exact no_87_15 (by omega) (by omega) | (unfold mE; omega))).trans (e_uq hw144 (Or.inl (by omega)) rfl))), (e_uq hw156 (Or.inr (by omega)) ((q153 276 (1260 * t + 2 * i + 439) (by first | exact no_87_16 (by omega) (by omega) | (unfold mE; omega))).trans (e_uq hw144 (Or.inl (by omega)) rfl)))⟩) (e_uq hw156 (Or.inr (by omega)) ((q153 276 (1260 * t + 428) (by first | exact no_87_14 (by omega) | (unfold mE; omega))).trans (e_uq hw144 (Or.inl (by omega)) rfl))) (e_uq hw156 (Or.inr (by omega)) ((q153 276 (1260 * t + 429) (by first | exact no_87_17 (by omega) | (unfold mE; omega))).trans (e_uq hw144 (Or.inl (by omega)) rfl))) (fun k q1 q2 => (e_uq hw156 (Or.inr (by omega)) ((q153 276 (1260 * t + k + 476) (by unfold mE; omega)).trans (e_uq hw144 (Or.inl (by omega)) rfl)))) (by omega) hru
    have erg : w156 330 (10000 * a + (p + 1)) = w 330 (10000 * a + p) := by rw [show 10000 * a + (p + 1) = 10000 * a + p + 1 by omega]; exact Eq.trans (e_uq hw156 (Or.inl (by first | decide | omega)) ((q153 330 (10000 * a + p + 1) no_87_18).trans (e_uq hw144 (Or.inl (by first | decide | omega)) rfl))) k8.1.2
    have edp : w156 275 102 = dl p - 1 := (e_uq hw156 (Or.inl (by omega)) ((q153 275 102 no_87_13).trans (e_ue hw144)))
    exact ⟨rfl, (show e_fr (mSm t a) w w156 from e_fr.up (show e_fr (mSm t a) w w150 from e_fr.trans (show e_fr (mSm t a) w w144 from e_fr.up (e_fr.refl w) hw144 (Or.inl (Or.inl (Or.inl ⟨rfl, by decide⟩)))) (e_fr.mono q153 (fun c k q => by exact Or.inl (Or.inl (lv_e q))))) hw156 (sm_own (by omega))), hT159, by omega, (mMo.same (mMo.same (mMo.same hMo (e_Has.mo hT) (fun c k q => by rw [← hw144]; exact e_up_ne _ _ (q.elim (fun q => moK_275 q (by decide)) (fun q => by omega)))) (e_Has.mo hT148) (fun c k q => q153 c k (moK_e q))) (e_Has.mo q153T) (fun c k q => by rw [← hw156]; exact e_up_ne _ _ (q.elim (fun q => moK_now q (by omega)) (fun q => by omega)))), (mOr.fr hOr (by omega) (e_Has.orn hT) (e_Has.orw hT (by omega)) (fun k q => by unfold orK at q; exact (e_uq hw156 (Or.inr (by omega)) ((q153 276 k (by unfold mE; omega)).trans (e_uq hw144 (Or.inl (by omega)) rfl))))), (fun e => by have e1 : w156 276 (1260 * t + 424) = w 276 (1260 * t + 424) := (e_uq hw156 (Or.inr (by omega)) ((q153 276 (1260 * t + 424) (by first | exact no_87_19 (by omega) | (unfold mE; omega))).trans (e_uq hw144 (Or.inl (by omega)) rfl))); have e2 : w156 276 (1260 * t + 425) = w 276 (1260 * t + 425) := (e_uq hw156 (Or.inr (by omega)) ((q153 276 (1260 * t + 425) (by first | exact no_87_20 (by omega) | (unfold mE; omega))).trans (e_uq hw144 (Or.inl (by omega)) rfl))); have := hW (by omega); omega), (fun e => by exfalso; omega), Or.inr (Or.inr ⟨(e_uq hw156 (Or.inl (by omega)) ((q153 275 100 no_87_13).trans (e_uq hw144 (Or.inr (by omega)) rfl))), (e_uq hw156 (Or.inr (by omega)) ((q153 276 (1260 * t + 416) (by first | exact no_87_21 (by omega) | (unfold mE; omega))).trans (e_uq hw144 (Or.inl (by omega)) h416))), by omega, by omega, ⟨g, p + 1, bs, ow, runOk.at hrn (by omega) (e_ue hw156) erg, by omega, by omega, Or.inl (by omega)⟩⟩)⟩
  · refine e_Ok.sw (tg := 255) rfl (by rw [h1]; rfl) ?_
    refine e_Ok.run (t' := (257, [(0, (1, 275)), (1, (0, w 328 (10000 * a + p))), (2, (0, w 329 (10000 * a + p))), (3, (0, p))], [(1, 275), (1, 275)], w)) 2 rfl ?_
    refine e_Ok.getr (z := 330) rfl (el_o rfl) rfl (ef_o rfl) (e_Has.eq hT (mt_o rfl)) ⟨by decide, by decide⟩ ?_
    refine e_Ok.ps2 (x := (1, 275)) (y := (0, 10000)) (q := 264) 2 rfl ?_
    refine e_Ok.getf (z := a) rfl (el_o rfl) rfl (ef_o rfl) h98 (by omega) ?_
    refine e_Ok.mul (z := 10000 * a) rfl rfl (by omega) ?_
    refine e_Ok.ps1 (x := (0, p)) (q := 269) 1 rfl ?_
    refine e_Ok.add (z := 10000 * a + p) rfl rfl (by omega) ?_
    refine e_Ok.ald (z := w 330 (10000 * a + p)) rfl (el_o rfl) rfl (by omega) rfl (by omega) ?_
    refine e_Ok.ps2 (x := (0, 0)) (y := (0, 2)) (q := 273) 2 rfl ?_
    refine e_Ok.callV rfl (e_dq hd rfl) rfl rfl rfl rfl (c_371 (e_dq hd rfl) hT (by omega) (by omega) h96 h97 h98 hC hru ⟨hpn.1, hpen⟩ (by omega) (by omega) (by omega) (fun e => by omega)) (fun r161 w162 h163 => ?_)
    obtain ⟨rfl, ⟨q164, q164S⟩, q164T, q164n, q164d, q164c⟩ := h163
    refine e_Ok.nrm (q := 276) (st' := []) rfl rfl ?_
    refine e_Ok.rets rfl rfl ?_
    have e166 : w162 276 5 = w162 276 5 := rfl
    exact ⟨rfl, (show e_fr (mSm t a) w w162 from e_fr.trans (e_fr.refl w) (e_fr.mono q164 (fun c k q => by exact Or.inl (Or.inl q)))), q164T, by omega, (mMo.rel hMo (e_Has.mo hT) hCf q164S (fun c k q => q164 c k (moK_lv ht q))), (mOr.fr hOr (by omega) (e_Has.orn hT) (e_Has.orw hT (by omega)) (fun k q => by unfold orK at q; exact ((q164 276 k (by unfold mLv; omega)).trans rfl))), (fun e => by have e1 : w162 276 (1260 * t + 424) = w 276 (1260 * t + 424) := ((q164 276 (1260 * t + 424) (by first | exact no_87_11 (by omega) | (unfold mLv; omega))).trans rfl); have e2 : w162 276 (1260 * t + 425) = w 276 (1260 * t + 425) := ((q164 276 (1260 * t + 425) (by first | exact no_87_12 (by omega) | (unfold mLv; omega))).trans rfl); have := hW (by omega); omega), (fun _ k q => ((q164 276 k (by unfold mLv; omega)).trans rfl)), q164c.elim (fun h => Or.inl h) (fun h => Or.inr (Or.inr ⟨h.1.trans rfl, h.2.1.trans (show w 276 (1260 * t + 416) = 1 from h416), q164d, by have := h.2.2.1; omega, by obtain ⟨g2, p2, b2, o2, k21, k22, k23, k24, k25⟩ := h.2.2.2; exact ⟨g2, p2, b2, o2, k23, k24, k25, Or.inr (Or.inl ⟨k21, k22⟩)⟩⟩))⟩
  · refine e_Ok.sw (tg := 277) rfl (by rw [h1]; rfl) ?_
    have k16 := hi16.out (by omega)
    refine e_Ok.run (t' := (279, [(0, (1, 275)), (1, (0, w 328 (10000 * a + p))), (2, (0, w 329 (10000 * a + p))), (3, (0, p))], [(1, 275), (1, 275)], w)) 2 rfl ?_
    refine e_Ok.getr (z := 330) rfl (el_o rfl) rfl (ef_o rfl) (e_Has.eq hT (mt_o rfl)) ⟨by decide, by decide⟩ ?_
    refine e_Ok.ps2 (x := (1, 275)) (y := (0, 10000)) (q := 286) 2 rfl ?_
    refine e_Ok.getf (z := a) rfl (el_o rfl) rfl (ef_o rfl) h98 (by omega) ?_
    refine e_Ok.mul (z := 10000 * a) rfl rfl (by omega) ?_
    refine e_Ok.ps1 (x := (0, p)) (q := 291) 1 rfl ?_
    refine e_Ok.add (z := 10000 * a + p) rfl rfl (by omega) ?_
    refine e_Ok.ald (z := w 330 (10000 * a + p)) rfl (el_o rfl) rfl (by omega) rfl (by omega) ?_
    refine e_Ok.ps2 (x := (0, w 329 (10000 * a + p))) (y := (0, 3)) (q := 295) 2 rfl ?_
    refine e_Ok.callV rfl (e_dq hd rfl) rfl rfl rfl rfl (c_371 (e_dq hd rfl) hT (by omega) (by omega) h96 h97 h98 hC hru ⟨hpn.1, hpen⟩ (by omega) (by omega) (by omega) (fun _ => ⟨k16.1, k16.2.1, k16.2.2.1, k16.2.2.2⟩)) (fun r167 w168 h169 => ?_)
    obtain ⟨rfl, ⟨q170, q170S⟩, q170T, q170n, q170d, q170c⟩ := h169
    refine e_Ok.nrm (q := 298) (st' := []) rfl rfl ?_
    refine e_Ok.rets rfl rfl ?_
    have e172 : w168 276 5 = w168 276 5 := rfl
    exact ⟨rfl, (show e_fr (mSm t a) w w168 from e_fr.trans (e_fr.refl w) (e_fr.mono q170 (fun c k q => by exact Or.inl (Or.inl q)))), q170T, by omega, (mMo.rel hMo (e_Has.mo hT) hCf q170S (fun c k q => q170 c k (moK_lv ht q))), (mOr.fr hOr (by omega) (e_Has.orn hT) (e_Has.orw hT (by omega)) (fun k q => by unfold orK at q; exact ((q170 276 k (by unfold mLv; omega)).trans rfl))), (fun e => by have e1 : w168 276 (1260 * t + 424) = w 276 (1260 * t + 424) := ((q170 276 (1260 * t + 424) (by first | exact no_87_11 (by omega) | (unfold mLv; omega))).trans rfl); have e2 : w168 276 (1260 * t + 425) = w 276 (1260 * t + 425) := ((q170 276 (1260 * t + 425) (by first | exact no_87_12 (by omega) | (unfold mLv; omega))).trans rfl); have := hW (by omega); omega), (fun _ k q => ((q170 276 k (by unfold mLv; omega)).trans rfl)), q170c.elim (fun h => Or.inl h) (fun h => Or.inr (Or.inr ⟨h.1.trans rfl, h.2.1.trans (show w 276 (1260 * t + 416) = 1 from h416), q170d, by have := h.2.2.1; omega, by obtain ⟨g2, p2, b2, o2, k21, k22, k23, k24, k25⟩ := h.2.2.2; exact ⟨g2, p2, b2, o2, k23, k24, k25, Or.inr (Or.inl ⟨k21, k22⟩)⟩⟩))⟩
  · refine e_Ok.sw (tg := 299) rfl (by rw [h1]; rfl) ?_
    have k11 := hi11.out (by omega)
    have k17 := hi17.out (by omega)
    unfold iS iFT at k17
    refine e_Ok.run (t' := (301, [(0, (1, 275)), (1, (0, w 328 (10000 * a + p))), (2, (0, w 329 (10000 * a + p))), (3, (0, p))], [(1, 275), (1, 275)], w)) 2 rfl ?_
    refine e_Ok.callV rfl (e_dq hd rfl) rfl rfl rfl rfl (c_364 hT (e := dl p) (u := dl p - 1) h102 (by omega) (by omega) (by have q : w 345 (dl p - 1) = w 345 (dl p - 1) := rfl; have q2 := (hst (dl p - 1) (by omega) (by omega)); omega)) (fun r173 w174 h175 => ?_)
    obtain ⟨rfl, hw174⟩ := h175
    generalize hz176 : w 345 (dl p - 1) = z176
    have z176r : z176 = w 345 (dl p - 1) := Eq.trans hz176.symm rfl
    have z176b : -2147483648 ≤ z176 ∧ z176 ≤ 2147483647 := by rw [← hz176]; exact (by have q : w 345 (dl p - 1) = w 345 (dl p - 1) := rfl; have q2 := (hst (dl p - 1) (by omega) (by omega)); omega)
    have f177 : e_fr (mSm t a) w w174 := e_fr.up (e_fr.refl w) hw174 (Or.inl (Or.inl (Or.inl ⟨rfl, by decide⟩)))
    have hT178 : e_Has mTy w174 := e_Has.ups hT hw174 (mt_o rfl)
    refine e_Ok.nrm (q := 304) (st' := [(0, z176), (1, 275)]) rfl rfl ?_
    refine e_Ok.if1 rfl (fun h179 => ?_) (fun h179 => ?_)
    · replace h179 : (z176 : Int) ≠ 0 := h179
      refine e_Ok.ps2 (x := (0, 1)) (y := (0, p)) (q := 313) 2 rfl ?_
      refine e_Ok.add (z := p + 1) rfl rfl (by omega) ?_
      refine e_Ok.callV rfl (e_dq hd rfl) rfl rfl rfl rfl (c_365 (e_dq hd rfl) hT178 (by omega) (e_uq hw174 (Or.inr (by omega)) h97) (f := g + 1) (z := 1260 * t + 2 * g + 436) (e_uq hw174 (Or.inl (by first | decide | omega)) hF) (by omega) (by omega)) (fun r180 w181 h182 => ?_)
      obtain ⟨rfl, hw181⟩ := h182
      have hT184 : e_Has mTy w181 := e_Has.upr hT178 hw181 (nR_FRg t (g) (by omega) (by omega) (by omega)) (by omega)
      refine e_Ok.nrm (q := 317) (st' := []) rfl rfl ?_
      refine e_Ok.rets rfl rfl ?_
      have e185 : w181 276 5 = w 276 5 := (e_uq hw181 (Or.inr (by omega)) (e_uq hw174 (Or.inl (by omega)) rfl))
      have hrn := runOk.fr (w' := w181) (fun c k q1 q2 => (e_uq hw181 (Or.inl (by omega)) (e_uq hw174 (Or.inl (by omega)) rfl))) (fun i q1 q2 => ⟨(e_uq hw181 (Or.inr (by omega)) (e_uq hw174 (Or.inl (by omega)) rfl)), (e_uq hw181 (Or.inr (by omega)) (e_uq hw174 (Or.inl (by omega)) rfl))⟩) (e_uq hw181 (Or.inr (by omega)) (e_uq hw174 (Or.inl (by omega)) rfl)) (e_uq hw181 (Or.inr (by omega)) (e_uq hw174 (Or.inl (by omega)) rfl)) (fun k q1 q2 => (e_uq hw181 (Or.inr (by omega)) (e_uq hw174 (Or.inl (by omega)) rfl))) (by omega) hru
      have erg : w181 330 (10000 * a + (p + 1)) = w 330 (10000 * a + p) := by rw [show 10000 * a + (p + 1) = 10000 * a + p + 1 by omega]; exact Eq.trans (e_uq hw181 (Or.inl (by first | decide | omega)) (e_uq hw174 (Or.inl (by first | decide | omega)) rfl)) k17.1.1.2
      have edp : w181 275 102 = dl p - 1 := (e_uq hw181 (Or.inl (by omega)) (e_ue hw174))
      exact ⟨rfl, (show e_fr (mSm t a) w w181 from e_fr.up f177 hw181 (sm_own (by omega))), hT184, by omega, (mMo.same (mMo.same hMo (e_Has.mo hT) (fun c k q => by rw [← hw174]; exact e_up_ne _ _ (q.elim (fun q => moK_275 q (by decide)) (fun q => by omega)))) (e_Has.mo hT178) (fun c k q => by rw [← hw181]; exact e_up_ne _ _ (q.elim (fun q => moK_now q (by omega)) (fun q => by omega)))), (mOr.fr hOr (by omega) (e_Has.orn hT) (e_Has.orw hT (by omega)) (fun k q => by unfold orK at q; exact (e_uq hw181 (Or.inr (by omega)) (e_uq hw174 (Or.inl (by omega)) rfl)))), (fun e => by have e1 : w181 276 (1260 * t + 424) = w 276 (1260 * t + 424) := (e_uq hw181 (Or.inr (by omega)) (e_uq hw174 (Or.inl (by omega)) rfl)); have e2 : w181 276 (1260 * t + 425) = w 276 (1260 * t + 425) := (e_uq hw181 (Or.inr (by omega)) (e_uq hw174 (Or.inl (by omega)) rfl)); have := hW (by omega); omega), (fun e => by exfalso; omega), Or.inr (Or.inr ⟨(e_uq hw181 (Or.inl (by omega)) (e_uq hw174 (Or.inr (by omega)) rfl)), (e_uq hw181 (Or.inr (by omega)) (e_uq hw174 (Or.inl (by omega)) h416)), by omega, by omega, ⟨g, p + 1, bs, ow, runOk.at hrn (by omega) (e_ue hw181) erg, by omega, by omega, Or.inl (by omega)⟩⟩)⟩
    · replace h179 : (z176 : Int) = 0 := Classical.not_not.mp (show ¬ ((z176 : Int) ≠ 0) from h179)
      refine e_Ok.ps1 (x := (0, w 329 (10000 * a + p))) (q := 314) 2 rfl ?_
      refine e_Ok.callV rfl (e_dq hd rfl) rfl rfl rfl rfl (c_365 (e_dq hd rfl) hT178 (by omega) (e_uq hw174 (Or.inr (by omega)) h97) (f := g + 1) (z := 1260 * t + 2 * g + 436) (e_uq hw174 (Or.inl (by first | decide | omega)) hF) (by omega) (by omega)) (fun r186 w187 h188 => ?_)
      obtain ⟨rfl, hw187⟩ := h188
      have hT190 : e_Has mTy w187 := e_Has.upr hT178 hw187 (nR_FRg t (g) (by omega) (by omega) (by omega)) (by omega)
      refine e_Ok.nrm (q := 317) (st' := []) rfl rfl ?_
      refine e_Ok.rets rfl rfl ?_
      have e191 : w187 276 5 = w 276 5 := (e_uq hw187 (Or.inr (by omega)) (e_uq hw174 (Or.inl (by omega)) rfl))
      have hrn := runOk.fr (w' := w187) (fun c k q1 q2 => (e_uq hw187 (Or.inl (by omega)) (e_uq hw174 (Or.inl (by omega)) rfl))) (fun i q1 q2 => ⟨(e_uq hw187 (Or.inr (by omega)) (e_uq hw174 (Or.inl (by omega)) rfl)), (e_uq hw187 (Or.inr (by omega)) (e_uq hw174 (Or.inl (by omega)) rfl))⟩) (e_uq hw187 (Or.inr (by omega)) (e_uq hw174 (Or.inl (by omega)) rfl)) (e_uq hw187 (Or.inr (by omega)) (e_uq hw174 (Or.inl (by omega)) rfl)) (fun k q1 q2 => (e_uq hw187 (Or.inr (by omega)) (e_uq hw174 (Or.inl (by omega)) rfl))) (by omega) hru
      have erg : w187 330 (10000 * a + (w 329 (10000 * a + p))) = w 330 (10000 * a + p) := Eq.trans (show w187 330 (10000 * a + (w 329 (10000 * a + p))) = w 330 (10000 * a + (w 329 (10000 * a + p))) from (e_uq hw187 (Or.inl (by first | decide | omega)) (e_uq hw174 (Or.inl (by first | decide | omega)) rfl))) (by omega)
      have edp : w187 275 102 = dl p - 1 := (e_uq hw187 (Or.inl (by omega)) (e_ue hw174))
      exact ⟨rfl, (show e_fr (mSm t a) w w187 from e_fr.up f177 hw187 (sm_own (by omega))), hT190, by omega, (mMo.same (mMo.same hMo (e_Has.mo hT) (fun c k q => by rw [← hw174]; exact e_up_ne _ _ (q.elim (fun q => moK_275 q (by decide)) (fun q => by omega)))) (e_Has.mo hT178) (fun c k q => by rw [← hw187]; exact e_up_ne _ _ (q.elim (fun q => moK_now q (by omega)) (fun q => by omega)))), (mOr.fr hOr (by omega) (e_Has.orn hT) (e_Has.orw hT (by omega)) (fun k q => by unfold orK at q; exact (e_uq hw187 (Or.inr (by omega)) (e_uq hw174 (Or.inl (by omega)) rfl)))), (fun e => by have e1 : w187 276 (1260 * t + 424) = w 276 (1260 * t + 424) := (e_uq hw187 (Or.inr (by omega)) (e_uq hw174 (Or.inl (by omega)) rfl)); have e2 : w187 276 (1260 * t + 425) = w 276 (1260 * t + 425) := (e_uq hw187 (Or.inr (by omega)) (e_uq hw174 (Or.inl (by omega)) rfl)); have := hW (by omega); omega), (fun e => by exfalso; omega), Or.inr (Or.inr ⟨(e_uq hw187 (Or.inl (by omega)) (e_uq hw174 (Or.inr (by omega)) rfl)), (e_uq hw187 (Or.inr (by omega)) (e_uq hw174 (Or.inl (by omega)) h416)), by omega, by omega, ⟨g, w 329 (10000 * a + p), bs, ow, runOk.at hrn (by omega) (e_ue hw187) erg, by omega, by omega, Or.inl (by omega)⟩⟩)⟩
  · refine e_Ok.sw (tg := 318) rfl (by rw [h1]; rfl) ?_
    have k18 := hi18.out (by omega)
    refine e_Ok.run (t' := (320, [(0, (1, 275)), (1, (0, w 328 (10000 * a + p))), (2, (0, w 329 (10000 * a + p))), (3, (0, p))], [(0, w 329 (10000 * a + p)), (1, 275)], w)) 2 rfl ?_
    refine e_Ok.callV rfl (e_dq hd rfl) rfl rfl rfl rfl (c_365 (e_dq hd rfl) hT (by omega) h97 (f := g + 1) (z := 1260 * t + 2 * g + 436) hF (by omega) (by omega)) (fun r192 w193 h194 => ?_)
    obtain ⟨rfl, hw193⟩ := h194
    have hT196 : e_Has mTy w193 := e_Has.upr hT hw193 (nR_FRg t (g) (by omega) (by omega) (by omega)) (by omega)
    refine e_Ok.nrm (q := 323) (st' := []) rfl rfl ?_
    refine e_Ok.rets rfl rfl ?_
    have e197 : w193 276 5 = w 276 5 := (e_uq hw193 (Or.inr (by omega)) rfl)
    have hrn := runOk.fr (w' := w193) (fun c k q1 q2 => (e_uq hw193 (Or.inl (by omega)) rfl)) (fun i q1 q2 => ⟨(e_uq hw193 (Or.inr (by omega)) rfl), (e_uq hw193 (Or.inr (by omega)) rfl)⟩) (e_uq hw193 (Or.inr (by omega)) rfl) (e_uq hw193 (Or.inr (by omega)) rfl) (fun k q1 q2 => (e_uq hw193 (Or.inr (by omega)) rfl)) (by omega) hru
    have erg : w193 330 (10000 * a + (w 329 (10000 * a + p))) = w 330 (10000 * a + p) := Eq.trans (show w193 330 (10000 * a + (w 329 (10000 * a + p))) = w 330 (10000 * a + (w 329 (10000 * a + p))) from (e_uq hw193 (Or.inl (by first | decide | omega)) rfl)) (by omega)
    have edp : w193 275 102 = dl p := (e_uq hw193 (Or.inl (by omega)) h102)
    exact ⟨rfl, (show e_fr (mSm t a) w w193 from e_fr.up (e_fr.refl w) hw193 (sm_own (by omega))), hT196, by omega, (mMo.same hMo (e_Has.mo hT) (fun c k q => by rw [← hw193]; exact e_up_ne _ _ (q.elim (fun q => moK_now q (by omega)) (fun q => by omega)))), (mOr.fr hOr (by omega) (e_Has.orn hT) (e_Has.orw hT (by omega)) (fun k q => by unfold orK at q; exact (e_uq hw193 (Or.inr (by omega)) rfl))), (fun e => by have e1 : w193 276 (1260 * t + 424) = w 276 (1260 * t + 424) := (e_uq hw193 (Or.inr (by omega)) rfl); have e2 : w193 276 (1260 * t + 425) = w 276 (1260 * t + 425) := (e_uq hw193 (Or.inr (by omega)) rfl); have := hW (by omega); omega), (fun _ k q => (e_uq hw193 (Or.inr (by omega)) rfl)), Or.inr (Or.inr ⟨(e_uq hw193 (Or.inl (by omega)) rfl), (e_uq hw193 (Or.inr (by omega)) h416), by have := hdl (by omega); omega, by omega, ⟨g, w 329 (10000 * a + p), bs, ow, runOk.at hrn (by omega) (e_ue hw193) erg, by omega, by omega, (k18.2.2.2.2.2.2.elim (fun h => Or.inr (Or.inl ⟨by omega, fun _ => h⟩)) (fun h => Or.inr (Or.inr h)))⟩⟩)⟩
  · refine e_Ok.sw (tg := 324) rfl (by rcases h1 with h1 | h1 <;> (rw [h1]; rfl)) ?_
    have k19 := hi19.out (by omega)
    obtain ⟨hti, hpi3, -, hfin, hend, han1, han2⟩ := id (hC.2.2.1 (w 329 (10000 * a + p)) (by omega) (by omega))
    have hall := (hC.2.2.1 (w 329 (10000 * a + p)) (by omega) (by omega)).all (y := w 330 (10000 * a + p)) (k := w 328 (10000 * a + p) - 49) (by omega) (by omega)
    unfold tgt at hend hfin
    have hpz := hC.2.2.2.1.2.1 (w 331 (900 * a + w 329 (10000 * a + p))) (by omega) (by omega)
    have hp2 := hC.2.2.2.1.2.1 (3 * w 329 (10000 * a + p) + 2) (by omega) (by omega)
    refine e_Ok.run (t' := (328, [(0, (1, 275)), (1, (0, w 328 (10000 * a + p))), (2, (0, w 329 (10000 * a + p))), (3, (0, p))], [(1, 275), (0, 900)], w)) 2 rfl ?_
    refine e_Ok.getf (z := a) rfl (el_o rfl) rfl (ef_o rfl) h98 (by omega) ?_
    refine e_Ok.mul (z := 900 * a) rfl rfl (by omega) ?_
    refine e_Ok.ps1 (x := (0, w 329 (10000 * a + p))) (q := 333) 1 rfl ?_
    refine e_Ok.add (z := 900 * a + w 329 (10000 * a + p)) rfl rfl (by omega) ?_
    refine e_Ok.run (t' := (337, [(5, (0, 900 * a + w 329 (10000 * a + p))), (0, (1, 275)), (1, (0, w 328 (10000 * a + p))), (2, (0, w 329 (10000 * a + p))), (3, (0, p))], [(1, 275)], w)) 2 rfl ?_
    refine e_Ok.getr (z := 333) rfl (el_o rfl) rfl (ef_o rfl) (e_Has.eq hT (mt_o rfl)) ⟨by decide, by decide⟩ ?_
    refine e_Ok.ps1 (x := (0, 900 * a + w 329 (10000 * a + p))) (q := 342) 1 rfl ?_
    have h198 := (e_Has.get hT (c := 333) (k := 900 * a + w 329 (10000 * a + p)) (lo := (-2147483648)) (hi := 2147483647) rfl (by decide))
    refine e_Ok.ald (z := w 333 (900 * a + w 329 (10000 * a + p))) rfl rfl rfl (by omega) rfl (e_bq h198 (by decide) (by decide)) ?_
    refine e_Ok.if1 rfl (fun h199 => ?_) (fun h199 => ?_)
    · replace h199 : (w 333 (900 * a + w 329 (10000 * a + p)) : Int) < 0 := h199
      refine e_Ok.ps2 (x := (1, 275)) (y := (1, 275)) (q := 354) 2 rfl ?_
      refine e_Ok.getr (z := 333) rfl (el_o rfl) rfl (ef_o rfl) (e_Has.eq hT (mt_o rfl)) ⟨by decide, by decide⟩ ?_
      refine e_Ok.ps1 (x := (0, 900 * a + w 329 (10000 * a + p))) (q := 359) 1 rfl ?_
      refine e_Ok.ald (z := w 333 (900 * a + w 329 (10000 * a + p))) rfl rfl rfl (by omega) rfl (by omega) ?_
      refine e_Ok.if1 rfl (fun h200 => ?_) (fun h200 => ?_)
      · replace h200 : (w 333 (900 * a + w 329 (10000 * a + p)) : Int) < 0 := h200
        refine e_Ok.ps1 (x := (1, 275)) (q := 374) 1 rfl ?_
        refine e_Ok.getr (z := 334) rfl (el_o rfl) rfl (ef_o rfl) (e_Has.eq hT (mt_o rfl)) ⟨by decide, by decide⟩ ?_
        refine e_Ok.ps1 (x := (0, 900 * a + w 329 (10000 * a + p))) (q := 379) 1 rfl ?_
        refine e_Ok.ald (z := w 334 (900 * a + w 329 (10000 * a + p))) rfl rfl rfl (by omega) rfl (by omega) ?_
        refine e_Ok.callV rfl (e_dq hd rfl) rfl rfl rfl rfl (c_365 (e_dq hd rfl) hT (by omega) h97 (f := g + 1) (z := 1260 * t + 2 * g + 436) hF (by omega) (by omega)) (fun r201 w202 h203 => ?_)
        obtain ⟨rfl, hw202⟩ := h203
        have hT205 : e_Has mTy w202 := e_Has.upr hT hw202 (nR_FRg t (g) (by omega) (by omega) (by omega)) (by omega)
        refine e_Ok.nrm (q := 383) (st' := []) rfl rfl ?_
        refine e_Ok.rets rfl rfl ?_
        have e206 : w202 276 5 = w 276 5 := (e_uq hw202 (Or.inr (by omega)) rfl)
        have hrn := runOk.to (w' := w202) (r' := w 331 (900 * a + w 329 (10000 * a + p))) hru (fun c k q1 q2 => (e_uq hw202 (Or.inl (by omega)) rfl)) (fun i q1 q2 => ⟨(e_uq hw202 (Or.inr (by omega)) rfl), (e_uq hw202 (Or.inr (by omega)) rfl)⟩) (e_uq hw202 (Or.inr (by omega)) rfl) (by have q : w202 276 (1260 * t + 429) = bs g + pi (w 330 (10000 * a + p)) := (e_uq hw202 (Or.inr (by omega)) hPn); omega) (fun k q1 q2 => (e_uq hw202 (Or.inr (by omega)) rfl)) (by omega) (by omega) (by omega) (fun q q1 q2 q3 => by have := han2 (w 328 (10000 * a + p) - 49) q (by omega) (by omega) q1; rwa [show 3 * w 329 (10000 * a + p) + (w 328 (10000 * a + p) - 49) = w 330 (10000 * a + p) by omega] at this)
        have edp : w202 275 102 = dl p := (e_uq hw202 (Or.inl (by omega)) h102)
        exact ⟨rfl, (show e_fr (mSm t a) w w202 from e_fr.up (e_fr.refl w) hw202 (sm_own (by omega))), hT205, by omega, (mMo.same hMo (e_Has.mo hT) (fun c k q => by rw [← hw202]; exact e_up_ne _ _ (q.elim (fun q => moK_now q (by omega)) (fun q => by omega)))), (mOr.fr hOr (by omega) (e_Has.orn hT) (e_Has.orw hT (by omega)) (fun k q => by unfold orK at q; exact (e_uq hw202 (Or.inr (by omega)) rfl))), (fun e => by have e1 : w202 276 (1260 * t + 424) = w 276 (1260 * t + 424) := (e_uq hw202 (Or.inr (by omega)) rfl); have e2 : w202 276 (1260 * t + 425) = w 276 (1260 * t + 425) := (e_uq hw202 (Or.inr (by omega)) rfl); have := hW (by omega); omega), (fun _ k q => (e_uq hw202 (Or.inr (by omega)) rfl)), Or.inr (Or.inr ⟨(e_uq hw202 (Or.inl (by omega)) rfl), (e_uq hw202 (Or.inr (by omega)) h416), by have := hdl (by omega); omega, by omega, ⟨g, w 334 (900 * a + w 329 (10000 * a + p)), bs, ow, runOk.at hrn (by omega) (e_ue hw202) (Eq.trans (show w202 330 (10000 * a + (w 334 (900 * a + w 329 (10000 * a + p)))) = w 330 (10000 * a + (w 334 (900 * a + w 329 (10000 * a + p)))) from (e_uq hw202 (Or.inl (by omega)) rfl)) (by omega)), by omega, by omega, Or.inr (Or.inl ⟨by omega, fun _ => by omega⟩)⟩⟩)⟩
      · replace h200 : (w 333 (900 * a + w 329 (10000 * a + p)) : Int) ≥ 0 := Int.not_lt.mp (show ¬ ((w 333 (900 * a + w 329 (10000 * a + p)) : Int) < 0) from h200)
        exfalso; omega
    · replace h199 : (w 333 (900 * a + w 329 (10000 * a + p)) : Int) ≥ 0 := Int.not_lt.mp (show ¬ ((w 333 (900 * a + w 329 (10000 * a + p)) : Int) < 0) from h199)
      have hf1 := hfin.resolve_left (by omega)
      refine e_Ok.ps3 (x := (0, 0)) (y := (0, 0)) (z := (1, 275)) (q := 349) 3 rfl ?_
      refine e_Ok.callV rfl (e_dq hd rfl) rfl rfl rfl rfl (c_370 hT (by omega) h97 (m := bs g + pi (w 330 (10000 * a + p))) (m1 := bs g + pi (w 330 (10000 * a + p)) + 1) (z := 1260 * t + 2 * bs g + 2 * pi (w 330 (10000 * a + p)) + 476) (z1 := 1260 * t + 2 * bs g + 2 * pi (w 330 (10000 * a + p)) + 477) hPn (by omega) (by omega) (by omega) (by omega)) (fun r207 w208 h209 => ?_)
      obtain ⟨rfl, hw208⟩ := h209
      generalize hw210 : e_up w 276 (1260 * t + 2 * bs g + 2 * pi (w 330 (10000 * a + p)) + 476) 0 = w210 at hw208
      have hT212 : e_Has mTy w210 := e_Has.upr hT hw210 (nR_PEg t (by omega) (by omega)) (by omega)
      generalize hw213 : e_up w210 276 (1260 * t + 2 * bs g + 2 * pi (w 330 (10000 * a + p)) + 477) 0 = w213 at hw208
      have hT215 : e_Has mTy w213 := e_Has.upr hT212 hw213 (nR_PEg t (by omega) (by omega)) (by omega)
      have hT217 : e_Has mTy w208 := e_Has.upr hT215 hw208 (nR_PENDS (t := t) (by omega)) (by omega)
      refine e_Ok.nrm (q := 352) (st' := []) rfl rfl ?_
      refine e_Ok.ps2 (x := (1, 275)) (y := (1, 275)) (q := 354) 2 rfl ?_
      refine e_Ok.getr (z := 333) rfl (el_o rfl) rfl (ef_o rfl) (e_uq hw208 (Or.inl (by omega)) (e_uq hw213 (Or.inl (by omega)) (e_uq hw210 (Or.inl (by omega)) (e_Has.eq hT (mt_o rfl))))) ⟨by decide, by decide⟩ ?_
      refine e_Ok.ps1 (x := (0, 900 * a + w 329 (10000 * a + p))) (q := 359) 1 rfl ?_
      refine e_Ok.ald (z := w 333 (900 * a + w 329 (10000 * a + p))) rfl rfl rfl (by omega) (e_uq hw208 (Or.inl (by omega)) (e_uq hw213 (Or.inl (by omega)) (e_uq hw210 (Or.inl (by omega)) rfl))) (by omega) ?_
      refine e_Ok.if1 rfl (fun h218 => ?_) (fun h218 => ?_)
      · replace h218 : (w 333 (900 * a + w 329 (10000 * a + p)) : Int) < 0 := h218
        exfalso; omega
      · replace h218 : (w 333 (900 * a + w 329 (10000 * a + p)) : Int) ≥ 0 := Int.not_lt.mp (show ¬ ((w 333 (900 * a + w 329 (10000 * a + p)) : Int) < 0) from h218)
        refine e_Ok.ps1 (x := (1, 275)) (q := 364) 1 rfl ?_
        refine e_Ok.getr (z := 333) rfl (el_o rfl) rfl (ef_o rfl) (e_uq hw208 (Or.inl (by omega)) (e_uq hw213 (Or.inl (by omega)) (e_uq hw210 (Or.inl (by omega)) (e_Has.eq hT (mt_o rfl))))) ⟨by decide, by decide⟩ ?_
        refine e_Ok.ps1 (x := (0, 900 * a + w 329 (10000 * a + p))) (q := 369) 1 rfl ?_
        refine e_Ok.ald (z := w 333 (900 * a + w 329 (10000 * a + p))) rfl rfl rfl (by omega) (e_uq hw208 (Or.inl (by omega)) (e_uq hw213 (Or.inl (by omega)) (e_uq hw210 (Or.inl (by omega)) rfl))) (by omega) ?_
        refine e_Ok.ps0 (q := 380) 1 rfl ?_
        refine e_Ok.callV rfl (e_dq hd rfl) rfl rfl rfl rfl (c_365 (e_dq hd rfl) hT217 (by omega) (e_uq hw208 (Or.inl (by first | decide | omega)) (e_uq hw213 (Or.inl (by first | decide | omega)) (e_uq hw210 (Or.inl (by first | decide | omega)) h97))) (f := g + 1) (z := 1260 * t + 2 * g + 436) (e_uq hw208 (Or.inr (by omega)) (e_uq hw213 (Or.inr (by omega)) (e_uq hw210 (Or.inr (by omega)) hF))) (by omega) (by omega)) (fun r219 w220 h221 => ?_)
        obtain ⟨rfl, hw220⟩ := h221
        have hT223 : e_Has mTy w220 := e_Has.upr hT217 hw220 (nR_FRg t (g) (by omega) (by omega) (by omega)) (by omega)
        refine e_Ok.nrm (q := 383) (st' := []) rfl rfl ?_
        refine e_Ok.rets rfl rfl ?_
        have e224 : w220 276 5 = w 276 5 := (e_uq hw220 (Or.inr (by omega)) (e_uq hw208 (Or.inr (by omega)) (e_uq hw213 (Or.inr (by omega)) (e_uq hw210 (Or.inr (by omega)) rfl))))
        have hrn := runOk.fin (w' := w220) (z := w 329 (10000 * a + p)) (i := w 328 (10000 * a + p) - 49) (x := 0) (y := 0) hC hru (by omega) (by omega) (by omega) (fun c k q1 q2 => (e_uq hw220 (Or.inl (by omega)) (e_uq hw208 (Or.inl (by omega)) (e_uq hw213 (Or.inl (by omega)) (e_uq hw210 (Or.inl (by omega)) rfl))))) (fun i q1 q2 => ⟨(e_uq hw220 (Or.inr (by omega)) (e_uq hw208 (Or.inr (by omega)) (e_uq hw213 (Or.inr (by omega)) (e_uq hw210 (Or.inr (by omega)) rfl)))), (e_uq hw220 (Or.inr (by omega)) (e_uq hw208 (Or.inr (by omega)) (e_uq hw213 (Or.inr (by omega)) (e_uq hw210 (Or.inr (by omega)) rfl))))⟩) (e_uq hw220 (Or.inr (by omega)) (e_uq hw208 (Or.inr (by omega)) (e_uq hw213 (Or.inr (by omega)) (e_uq hw210 (Or.inr (by omega)) rfl)))) (e_uq hw220 (Or.inr (by omega)) (e_ue hw208)) (fun k q1 q2 => (e_uq hw220 (Or.inr (by omega)) (e_uq hw208 (Or.inr (by omega)) (e_uq hw213 (Or.inr (by omega)) (e_uq hw210 (Or.inr (by omega)) rfl))))) (by rw [show 1260 * t + 2 * (bs g + pi (w 330 (10000 * a + p))) + 476 = 1260 * t + 2 * bs g + 2 * pi (w 330 (10000 * a + p)) + 476 by omega]; exact (e_uq hw220 (Or.inr (by omega)) (e_uq hw208 (Or.inr (by omega)) (e_uq hw213 (Or.inr (by omega)) (e_ue hw210))))) (by rw [show 1260 * t + 2 * (bs g + pi (w 330 (10000 * a + p))) + 477 = 1260 * t + 2 * bs g + 2 * pi (w 330 (10000 * a + p)) + 477 by omega]; exact (e_uq hw220 (Or.inr (by omega)) (e_uq hw208 (Or.inr (by omega)) (e_ue hw213)))) (fun e3 => by omega)
        have edp : w220 275 102 = dl p := (e_uq hw220 (Or.inl (by omega)) (e_uq hw208 (Or.inl (by omega)) (e_uq hw213 (Or.inl (by omega)) (e_uq hw210 (Or.inl (by omega)) h102))))
        exact ⟨rfl, (show e_fr (mSm t a) w w220 from e_fr.up (show e_fr (mSm t a) w w208 from e_fr.up (show e_fr (mSm t a) w w213 from e_fr.up (show e_fr (mSm t a) w w210 from e_fr.up (e_fr.refl w) hw210 (sm_own (by omega))) hw213 (sm_own (by omega))) hw208 (sm_own (by omega))) hw220 (sm_own (by omega))), hT223, by omega, (mMo.same (mMo.same (mMo.same (mMo.same hMo (e_Has.mo hT) (fun c k q => by rw [← hw210]; exact e_up_ne _ _ (q.elim (fun q => moK_now q (by omega)) (fun q => by omega)))) (e_Has.mo hT212) (fun c k q => by rw [← hw213]; exact e_up_ne _ _ (q.elim (fun q => moK_now q (by omega)) (fun q => by omega)))) (e_Has.mo hT215) (fun c k q => by rw [← hw208]; exact e_up_ne _ _ (q.elim (fun q => moK_now q (by omega)) (fun q => by omega)))) (e_Has.mo hT217) (fun c k q => by rw [← hw220]; exact e_up_ne _ _ (q.elim (fun q => moK_now q (by omega)) (fun q => by omega)))), (mOr.fr hOr (by omega) (e_Has.orn hT) (e_Has.orw hT (by omega)) (fun k q => by unfold orK at q; exact (e_uq hw220 (Or.inr (by omega)) (e_uq hw208 (Or.inr (by omega)) (e_uq hw213 (Or.inr (by omega)) (e_uq hw210 (Or.inr (by omega)) rfl)))))), (fun e => by have e1 : w220 276 (1260 * t + 424) = w 276 (1260 * t + 424) := (e_uq hw220 (Or.inr (by omega)) (e_uq hw208 (Or.inr (by omega)) (e_uq hw213 (Or.inr (by omega)) (e_uq hw210 (Or.inr (by omega)) rfl)))); have e2 : w220 276 (1260 * t + 425) = w 276 (1260 * t + 425) := (e_uq hw220 (Or.inr (by omega)) (e_uq hw208 (Or.inr (by omega)) (e_uq hw213 (Or.inr (by omega)) (e_uq hw210 (Or.inr (by omega)) rfl)))); have := hW (by omega); omega), (fun _ k q => (e_uq hw220 (Or.inr (by omega)) (e_uq hw208 (Or.inr (by omega)) (e_uq hw213 (Or.inr (by omega)) (e_uq hw210 (Or.inr (by omega)) rfl))))), Or.inr (Or.inr ⟨(e_uq hw220 (Or.inl (by omega)) (e_uq hw208 (Or.inl (by omega)) (e_uq hw213 (Or.inl (by omega)) (e_uq hw210 (Or.inl (by omega)) rfl)))), (e_uq hw220 (Or.inr (by omega)) (e_uq hw208 (Or.inr (by omega)) (e_uq hw213 (Or.inr (by omega)) (e_uq hw210 (Or.inr (by omega)) h416)))), by have := hdl (by omega); omega, by omega, ⟨g, w 333 (900 * a + w 329 (10000 * a + p)), bs, _, runOk.at hrn (by omega) (e_ue hw220) (Eq.trans (show w220 330 (10000 * a + (w 333 (900 * a + w 329 (10000 * a + p)))) = w 330 (10000 * a + (w 333 (900 * a + w 329 (10000 * a + p)))) from (e_uq hw220 (Or.inl (by omega)) (e_uq hw208 (Or.inl (by omega)) (e_uq hw213 (Or.inl (by omega)) (e_uq hw210 (Or.inl (by omega)) rfl))))) (by omega)), by omega, by omega, Or.inr (Or.inl ⟨by omega, fun _ => by omega⟩)⟩⟩)⟩
  · refine e_Ok.sw (tg := 384) rfl (by rw [h1]; rfl) ?_
    have k19 := hi19.out (by omega)
    refine e_Ok.run (t' := (389, [(0, (1, 275)), (1, (0, w 328 (10000 * a + p))), (2, (0, w 329 (10000 * a + p))), (3, (0, p))], [(1, 275), (0, 900), (1, 275)], w)) 3 rfl ?_
    refine e_Ok.getf (z := a) rfl (el_o rfl) rfl (ef_o rfl) h98 (by omega) ?_
    refine e_Ok.mul (z := 900 * a) rfl rfl (by omega) ?_
    refine e_Ok.ps1 (x := (0, w 329 (10000 * a + p))) (q := 394) 1 rfl ?_
    refine e_Ok.add (z := 900 * a + w 329 (10000 * a + p)) rfl rfl (by omega) ?_
    refine e_Ok.callV rfl (e_dq hd rfl) rfl rfl rfl rfl (c_377 (e_dq hd rfl) hT (by omega) (by omega) h96 h97 h98 hC hP (by omega) (z := w 329 (10000 * a + p)) (by omega) (by omega) (by have := hdl (by omega); omega)) (fun r225 w226 h227 => ?_)
    obtain ⟨rfl, ⟨q228, q228S⟩, q228T, q228n, q228d, q228c⟩ := h227
    refine e_Ok.nrm (q := 398) (st' := []) rfl rfl ?_
    refine e_Ok.rets rfl rfl ?_
    have e230 : w226 276 5 = w226 276 5 := rfl
    exact ⟨rfl, (show e_fr (mSm t a) w w226 from e_fr.trans (e_fr.refl w) (e_fr.mono q228 (fun c k q => by exact Or.inl (Or.inl q)))), q228T, by omega, (mMo.rel hMo (e_Has.mo hT) hCf q228S (fun c k q => q228 c k (moK_lv ht q))), (mOr.fr hOr (by omega) (e_Has.orn hT) (e_Has.orw hT (by omega)) (fun k q => by unfold orK at q; exact ((q228 276 k (by unfold mLv; omega)).trans rfl))), (fun e => by have e1 : w226 276 (1260 * t + 424) = w 276 (1260 * t + 424) := ((q228 276 (1260 * t + 424) (by first | exact no_87_11 (by omega) | (unfold mLv; omega))).trans rfl); have e2 : w226 276 (1260 * t + 425) = w 276 (1260 * t + 425) := ((q228 276 (1260 * t + 425) (by first | exact no_87_12 (by omega) | (unfold mLv; omega))).trans rfl); have := hW (by omega); omega), (fun _ k q => ((q228 276 k (by unfold mLv; omega)).trans rfl)), q228c.elim (fun h => Or.inl h) (fun h => Or.inr (Or.inr ⟨h.1.trans rfl, h.2.1.trans (show w 276 (1260 * t + 416) = 1 from h416), q228d, by have := h.2.2.1; omega, by obtain ⟨g2, p2, b2, o2, k21, k22, k23, k24, k25⟩ := h.2.2.2; exact ⟨g2, p2, b2, o2, k23, k24, k25, Or.inr (Or.inl ⟨k21, k22⟩)⟩⟩))⟩
end
