noncomputable section
def mOt (t c k : Int) : Prop := (c = 275 ∧ (k = 100 ∨ k = 102)) ∨ c = 326 ∨ c = 327 ∨ mGr c k ∨ (c = 276 ∧ ((160 ≤ k ∧ k ≤ 223) ∨ (352 ≤ k ∧ k ≤ 415) ∨ (20868 ≤ k ∧ k ≤ 20875) ∨ k = 6 ∨ k = 1260 * t + 416 ∨ k = 1260 * t + 421 ∨ k = 1260 * t + 422 ∨ k = 1260 * t + 424 ∨ k = 1260 * t + 425 ∨ k = 1260 * t + 426))
theorem no_86_0 : ¬ mO 276 5 := by unfold mO; omega
theorem no_86_1 {t : Int} (ht : 0 ≤ t ∧ t ≤ 15) : ¬ mO 276 (1260 * t + 424) := by unfold mO; omega
theorem no_86_2 {t : Int} (ht : 0 ≤ t ∧ t ≤ 15) : ¬ mO 276 (1260 * t + 425) := by unfold mO; omega
theorem no_86_3 {k : Int} : ¬ mO 275 k := by unfold mO; omega
theorem no_86_4 {b : Int} (hb : 0 ≤ b ∧ b ≤ 3) : ¬ mO 276 (36 * b + 20) := by unfold mO; omega
theorem no_86_5 {t : Int} (ht : 0 ≤ t ∧ t ≤ 15) : ¬ mO 276 (1260 * t + 416) := by unfold mO; omega
theorem no_86_6 {t : Int} (ht : 0 ≤ t ∧ t ≤ 15) : ¬ mTk t 276 5 := by unfold mTk; omega
theorem no_86_7 {t : Int} (ht : 0 ≤ t ∧ t ≤ 15) : ¬ mTk t 276 (1260 * t + 424) := by unfold mTk; omega
theorem no_86_8 {t : Int} (ht : 0 ≤ t ∧ t ≤ 15) : ¬ mTk t 276 (1260 * t + 425) := by unfold mTk; omega
theorem no_86_9 {t : Int} : ¬ mTk t 275 102 := by unfold mTk; omega
theorem no_86_10 {t : Int} {b : Int} (ht : 0 ≤ t ∧ t ≤ 15) (hb : 0 ≤ b ∧ b ≤ 3) : ¬ mTk t 276 (36 * b + 20) := by unfold mTk; omega
theorem no_86_11 : ¬ mLk 276 5 := by unfold mLk; omega
theorem no_86_12 {t : Int} (ht : 0 ≤ t ∧ t ≤ 15) : ¬ mLk 276 (1260 * t + 424) := by unfold mLk; omega
theorem no_86_13 {t : Int} (ht : 0 ≤ t ∧ t ≤ 15) : ¬ mLk 276 (1260 * t + 425) := by unfold mLk; omega
theorem no_86_14 {k : Int} : ¬ mLk 275 k := by unfold mLk; omega
theorem no_86_15 {b : Int} (hb : 0 ≤ b ∧ b ≤ 3) : ¬ mLk 276 (36 * b + 20) := by unfold mLk; omega
theorem no_86_16 {t : Int} (ht : 0 ≤ t ∧ t ≤ 15) : ¬ mLk 276 (1260 * t + 416) := by unfold mLk; omega
theorem no_86_17 {t : Int} (ht : 0 ≤ t ∧ t ≤ 15) : ¬ mGr 276 (1260 * t + 424) := by unfold mGr; omega
theorem no_86_18 {t : Int} (ht : 0 ≤ t ∧ t ≤ 15) : ¬ mGr 276 (1260 * t + 425) := by unfold mGr; omega
theorem no_86_19 {k : Int} : ¬ mGr 275 k := by unfold mGr; omega
theorem no_86_20 {t : Int} (ht : 0 ≤ t ∧ t ≤ 15) : ¬ mGr 276 (1260 * t + 416) := by unfold mGr; omega
theorem su_86_21 {t : Int} {c k : Int} (q : mO c k) : mOt t c k := by
  unfold mO at q
  rcases q with ⟨q, (⟨q, q⟩ | ⟨q, q⟩)⟩ | q | q
  · exact Or.inr (Or.inr (Or.inr (Or.inr ⟨(by omega), Or.inl ⟨(by omega), (by omega)⟩⟩)))
  · exact Or.inr (Or.inr (Or.inr (Or.inr ⟨(by omega), Or.inr (Or.inl ⟨(by omega), (by omega)⟩)⟩)))
  · exact Or.inr (Or.inl (by omega))
  · exact Or.inr (Or.inr (Or.inl (by omega)))
theorem su_86_22 {t : Int} {c k : Int} (q : mTk t c k) : mOt t c k := by
  unfold mTk at q
  rcases q with ⟨q, q⟩ | ⟨q, (⟨q, q⟩ | q | q | q | q)⟩
  · exact Or.inl ⟨(by omega), Or.inl (by omega)⟩
  · exact Or.inr (Or.inr (Or.inr (Or.inr ⟨(by omega), Or.inr (Or.inr (Or.inl ⟨(by omega), (by omega)⟩))⟩)))
  · exact Or.inr (Or.inr (Or.inr (Or.inr ⟨(by omega), Or.inr (Or.inr (Or.inr (Or.inl (by omega))))⟩)))
  · exact Or.inr (Or.inr (Or.inr (Or.inr ⟨(by omega), Or.inr (Or.inr (Or.inr (Or.inr (Or.inl (by omega)))))⟩)))
  · exact Or.inr (Or.inr (Or.inr (Or.inr ⟨(by omega), Or.inr (Or.inr (Or.inr (Or.inr (Or.inr (Or.inl (by omega))))))⟩)))
  · exact Or.inr (Or.inr (Or.inr (Or.inr ⟨(by omega), Or.inr (Or.inr (Or.inr (Or.inr (Or.inr (Or.inr (Or.inl (by omega)))))))⟩)))
theorem su_86_23 {t : Int} {c k : Int} (q : mLk c k) : mOt t c k := by
  unfold mLk at q
  rcases q with ⟨q, ⟨q, q⟩⟩
  · exact Or.inr (Or.inr (Or.inr (Or.inr ⟨(by omega), Or.inr (Or.inr (Or.inl ⟨(by omega), (by omega)⟩))⟩)))
set_option maxHeartbeats 4000000 in
theorem c_378 {d : Nat} (hd : 31 ≤ d) {w : eW} (hT : e_Has mTy w) (hA : mAc w) (hOr : mOr w (w 275 40)) {t a o x D : Int} (ht : 0 ≤ t ∧ t ≤ 15) (ha : 0 ≤ a ∧ a ≤ 3) (h96 : w 275 96 = t) (h97 : w 275 97 = 1260 * t + 416) (h98 : w 275 98 = a) (ho : o = 35 ∨ o = 36 ∨ o = 37 ∨ o = 42 ∨ o = 43 ∨ o = 44) (hD2 : o = 35 → D = 2) (hD1 : o = 36 ∨ o = 37 ∨ o = 44 → D = 1) (hD0 : o = 42 ∨ o = 43 → D = 0) (hx : o = 44 → 0 ≤ x ∧ x < w 338 a) (hW : 0 ≤ w 276 (1260 * t + 424) → w 276 (1260 * t + 425) < w 338 a) (h102 : w 275 102 = D) (hst : e_kn w 345 0 (D - 1)) (hE : w 276 5 ≤ 2147483600) : e_Ok 20 elay ecode eI d 378 (0, [(0, (1, 275)), (1, (0, o)), (2, (0, x))], [], w) (fun r w' => ∃ z : Int, r = [(0, z)] ∧ (0 ≤ z ∧ z ≤ 10) ∧ e_fr (mOt t) w w' ∧ e_Has mTy w' ∧ (w 276 5 ≤ w' 276 5 ∧ w' 276 5 ≤ w 276 5 + 1) ∧ mOr w' (w 275 40) ∧ (∀ b, 0 ≤ b → b ≤ 3 → w' 276 (36 * b + 20) = 0 ∨ w' 276 (36 * b + 20) = w 276 (36 * b + 20)) ∧ w' 275 102 = 0 ∧ (0 ≤ w' 276 (1260 * t + 424) → w' 276 (1260 * t + 425) < w 338 a) ∧ ((w' 275 100 = w 275 100 ∧ w' 276 (1260 * t + 416) = w 276 (1260 * t + 416)) ∨ (z = 0 ∧ w' 275 100 = 1 ∧ w' 276 (1260 * t + 416) = 5))) := by
  obtain ⟨d, rfl⟩ : ∃ e, d = e + 1 := ⟨d - 1, by omega⟩
  have hpp := e_Has.get hT (c := 275) (k := 40) (lo := 0) (hi := 32) rfl (by decide)
  have hrn := e_Has.get hT (c := 338) (k := a) (lo := 0) (hi := 32) rfl (by decide)
  refine e_Ok.run (t' := (1, [(0, (1, 275)), (1, (0, o)), (2, (0, x))], [(0, o)], w)) 1 rfl ?_
  have hs2 : ∀ x : Int, 35 ≤ x ∧ x ≤ 44 ∧ x ≠ 38 ∧ x ≠ 39 ∧ x ≠ 40 ∧ x ≠ 41 → (x = 35) ∨ (x = 36) ∨ (x = 37) ∨ (x = 42) ∨ (x = 43) ∨ (x = 44) := fun x h => by omega
  obtain h1 | h1 | h1 | h1 | h1 | h1 := hs2 (o) (by omega)
  · refine e_Ok.sw (tg := 56) rfl (by rw [h1]; rfl) ?_
    have hD : D = 2 := by omega
    refine e_Ok.run (t' := (57, [(0, (1, 275)), (1, (0, o)), (2, (0, x))], [(1, 275)], w)) 1 rfl ?_
    refine e_Ok.callV rfl (by omega) rfl rfl rfl rfl (c_364 hT (e := D) (u := D - 1) h102 (by omega) (by omega) (by have q : w 345 (D - 1) = w 345 (D - 1) := rfl; have q2 := (hst (D - 1) (by omega) (by omega)); omega)) (fun r3 w4 h5 => ?_)
    obtain ⟨rfl, hw4⟩ := h5
    generalize hz6 : w 345 (D - 1) = z6
    have z6r : z6 = w 345 (D - 1) := Eq.trans hz6.symm rfl
    have z6b : -2147483648 ≤ z6 ∧ z6 ≤ 2147483647 := by rw [← hz6]; exact (by have q : w 345 (D - 1) = w 345 (D - 1) := rfl; have q2 := (hst (D - 1) (by omega) (by omega)); omega)
    have f7 : e_fr (mOt t) w w4 := e_fr.up (e_fr.refl w) hw4 (by unfold mOt mGr; omega)
    have hT8 : e_Has mTy w4 := e_Has.ups hT hw4 rfl
    show e_Ok 20 elay ecode eI (d + 1) 378 (60, [(0, (1, 275)), (1, (0, o)), (2, (0, x))], [(0, z6)], w4) _
    refine e_Ok.run (t' := (62, [(3, (0, z6)), (0, (1, 275)), (1, (0, o)), (2, (0, x))], [(1, 275)], w4)) 2 rfl ?_
    refine e_Ok.callV rfl (by omega) rfl rfl rfl rfl (c_364 hT8 (e := D - 1) (u := D - 2) (by rw [← hw4]; exact e_up_eq _ _ _ _) (by omega) (by omega) (by have q : w4 345 (D - 2) = w 345 (D - 2) := (by rw [← hw4]; exact (e_up_ne _ _ (Or.inl (by omega))).trans rfl); have q2 := (hst (D - 2) (by omega) (by omega)); omega)) (fun r9 w10 h11 => ?_)
    obtain ⟨rfl, hw10⟩ := h11
    generalize hz12 : w4 345 (D - 2) = z12
    have z12r : z12 = w 345 (D - 2) := Eq.trans hz12.symm (by rw [← hw4]; exact (e_up_ne _ _ (Or.inl (by omega))).trans rfl)
    have z12b : -2147483648 ≤ z12 ∧ z12 ≤ 2147483647 := by rw [← hz12]; exact (by have q : w4 345 (D - 2) = w 345 (D - 2) := (by rw [← hw4]; exact (e_up_ne _ _ (Or.inl (by omega))).trans rfl); have q2 := (hst (D - 2) (by omega) (by omega)); omega)
    have f13 : e_fr (mOt t) w w10 := e_fr.up f7 hw10 (by unfold mOt mGr; omega)
    have hT14 : e_Has mTy w10 := e_Has.ups hT8 hw10 rfl
    show e_Ok 20 elay ecode eI (d + 1) 378 (65, [(3, (0, z6)), (0, (1, 275)), (1, (0, o)), (2, (0, x))], [(0, z12)], w10) _
    refine e_Ok.run (t' := (74, [(4, (0, z12)), (3, (0, z6)), (0, (1, 275)), (1, (0, o)), (2, (0, x))], [(4, 63), (4, 0), (4, z12)], w10)) 5 rfl ?_
    refine e_Ok.callS rfl (by omega) rfl rfl (c_266) (fun r15 w16 h17 => ?_)
    obtain ⟨z18, rfl, rfl, q19⟩ := h17
    obtain ⟨rfl, q19⟩ | ⟨rfl, q19⟩ := q19
    · show e_Ok 20 elay ecode eI (d + 1) 378 (77, [(4, (0, z12)), (3, (0, z6)), (0, (1, 275)), (1, (0, o)), (2, (0, x))], [(0, 1)], w10) _
      refine e_Ok.if1 rfl (fun h20 => ?_) (fun h20 => ?_)
      · replace h20 : (1 : Int) ≠ 0 := h20
        refine e_Ok.run (t' := (86, [(4, (0, z12)), (3, (0, z6)), (0, (1, 275)), (1, (0, o)), (2, (0, x))], [(0, z6), (0, z12), (1, 275)], w10)) 3 rfl ?_
        refine e_Ok.callV rfl (by omega) rfl rfl rfl rfl (c_323 (by omega) hT14 (mAc.fr' (fun k q => by revert q; unfold mOt mGr; omega) f13 hA) (by omega) (by omega)) (fun r21 w22 h23 => ?_)
        obtain ⟨rfl, q24, q24T⟩ := h23
        have f25 : e_fr (mOt t) w w22 := e_fr.trans f13 (e_fr.mono q24 (fun c k q => by first | exact su_86_21 q | (unfold mO at q; unfold mOt mGr; omega)))
        show e_Ok 20 elay ecode eI (d + 1) 378 (89, [(4, (0, z12)), (3, (0, z6)), (0, (1, 275)), (1, (0, o)), (2, (0, x))], [], w22) _
        refine e_Ok.run (t' := (90, [(4, (0, z12)), (3, (0, z6)), (0, (1, 275)), (1, (0, o)), (2, (0, x))], [(0, 0)], w22)) 1 rfl ?_
        refine e_Ok.rets rfl rfl ?_
        have e26 : w22 276 5 = w 276 5 := ((q24 276 5 no_86_0).trans (by rw [← hw10]; exact (e_up_ne _ _ (Or.inl (by omega))).trans (by rw [← hw4]; exact (e_up_ne _ _ (Or.inl (by omega))).trans rfl)))
        have ew8 : w22 276 (1260 * t + 424) = w 276 (1260 * t + 424) := ((q24 276 (1260 * t + 424) (by first | exact no_86_1 (by omega) | (unfold mO; omega))).trans (by rw [← hw10]; exact (e_up_ne _ _ (Or.inl (by omega))).trans (by rw [← hw4]; exact (e_up_ne _ _ (Or.inl (by omega))).trans rfl)))
        have ew9 : w22 276 (1260 * t + 425) = w 276 (1260 * t + 425) := ((q24 276 (1260 * t + 425) (by first | exact no_86_2 (by omega) | (unfold mO; omega))).trans (by rw [← hw10]; exact (e_up_ne _ _ (Or.inl (by omega))).trans (by rw [← hw4]; exact (e_up_ne _ _ (Or.inl (by omega))).trans rfl)))
        have edp : w22 275 102 = D - 2 := ((q24 275 102 no_86_3).trans (by rw [← hw10]; exact e_up_eq _ _ _ _))
        exact ⟨_, rfl, by omega, f25, q24T, by omega, (mOr.fr hOr (by omega) (e_Has.orn hT) (e_Has.orw hT (by omega)) (fun k q => by unfold orK at q; exact ((q24 276 k (by unfold mO; omega)).trans (by rw [← hw10]; exact (e_up_ne _ _ (Or.inl (by omega))).trans (by rw [← hw4]; exact (e_up_ne _ _ (Or.inl (by omega))).trans rfl))))), (fun b g1 g2 => Or.inr ((q24 276 (36 * b + 20) (by first | exact no_86_4 (by omega) | (unfold mO; omega))).trans (by rw [← hw10]; exact (e_up_ne _ _ (Or.inl (by omega))).trans (by rw [← hw4]; exact (e_up_ne _ _ (Or.inl (by omega))).trans rfl)))), by omega, (fun e => by have := hW (by omega); omega), Or.inl ⟨((q24 275 100 no_86_3).trans (by rw [← hw10]; exact (e_up_ne _ _ (Or.inr (by omega))).trans (by rw [← hw4]; exact (e_up_ne _ _ (Or.inr (by omega))).trans rfl))), ((q24 276 (1260 * t + 416) (by first | exact no_86_5 (by omega) | (unfold mO; omega))).trans (by rw [← hw10]; exact (e_up_ne _ _ (Or.inl (by omega))).trans (by rw [← hw4]; exact (e_up_ne _ _ (Or.inl (by omega))).trans rfl)))⟩⟩
      · replace h20 : (1 : Int) = 0 := by have q : ¬ ((1 : Int) ≠ 0) := h20; omega
        exfalso; omega
    · show e_Ok 20 elay ecode eI (d + 1) 378 (77, [(4, (0, z12)), (3, (0, z6)), (0, (1, 275)), (1, (0, o)), (2, (0, x))], [(0, 0)], w10) _
      refine e_Ok.if1 rfl (fun h27 => ?_) (fun h27 => ?_)
      · replace h27 : (0 : Int) ≠ 0 := h27
        exfalso; omega
      · replace h27 : (0 : Int) = 0 := by have q : ¬ ((0 : Int) ≠ 0) := h27; omega
        refine e_Ok.run (t' := (81, [(4, (0, z12)), (3, (0, z6)), (0, (1, 275)), (1, (0, o)), (2, (0, x))], [(0, 2)], w10)) 1 rfl ?_
        refine e_Ok.rets rfl rfl ?_
        have e28 : w10 276 5 = w 276 5 := (by rw [← hw10]; exact (e_up_ne _ _ (Or.inl (by omega))).trans (by rw [← hw4]; exact (e_up_ne _ _ (Or.inl (by omega))).trans rfl))
        have ew8 : w10 276 (1260 * t + 424) = w 276 (1260 * t + 424) := (by rw [← hw10]; exact (e_up_ne _ _ (Or.inl (by omega))).trans (by rw [← hw4]; exact (e_up_ne _ _ (Or.inl (by omega))).trans rfl))
        have ew9 : w10 276 (1260 * t + 425) = w 276 (1260 * t + 425) := (by rw [← hw10]; exact (e_up_ne _ _ (Or.inl (by omega))).trans (by rw [← hw4]; exact (e_up_ne _ _ (Or.inl (by omega))).trans rfl))
        have edp : w10 275 102 = D - 2 := (by rw [← hw10]; exact e_up_eq _ _ _ _)
        exact ⟨_, rfl, by omega, f13, hT14, by omega, (mOr.fr hOr (by omega) (e_Has.orn hT) (e_Has.orw hT (by omega)) (fun k q => by unfold orK at q; exact (by rw [← hw10]; exact (e_up_ne _ _ (Or.inl (by omega))).trans (by rw [← hw4]; exact (e_up_ne _ _ (Or.inl (by omega))).trans rfl)))), (fun b g1 g2 => Or.inr (by rw [← hw10]; exact (e_up_ne _ _ (Or.inl (by omega))).trans (by rw [← hw4]; exact (e_up_ne _ _ (Or.inl (by omega))).trans rfl))), by omega, (fun e => by have := hW (by omega); omega), Or.inl ⟨(by rw [← hw10]; exact (e_up_ne _ _ (Or.inr (by omega))).trans (by rw [← hw4]; exact (e_up_ne _ _ (Or.inr (by omega))).trans rfl)), (by rw [← hw10]; exact (e_up_ne _ _ (Or.inl (by omega))).trans (by rw [← hw4]; exact (e_up_ne _ _ (Or.inl (by omega))).trans rfl))⟩⟩
  · refine e_Ok.sw (tg := 91) rfl (by rw [h1]; rfl) ?_
    have hD : D = 1 := by omega
    refine e_Ok.run (t' := (93, [(0, (1, 275)), (1, (0, o)), (2, (0, x))], [(1, 275), (1, 275)], w)) 2 rfl ?_
    refine e_Ok.callV rfl (by omega) rfl rfl rfl rfl (c_364 hT (e := D) (u := D - 1) h102 (by omega) (by omega) (by have q : w 345 (D - 1) = w 345 (D - 1) := rfl; have q2 := (hst (D - 1) (by omega) (by omega)); omega)) (fun r29 w30 h31 => ?_)
    obtain ⟨rfl, hw30⟩ := h31
    generalize hz32 : w 345 (D - 1) = z32
    have z32r : z32 = w 345 (D - 1) := Eq.trans hz32.symm rfl
    have z32b : -2147483648 ≤ z32 ∧ z32 ≤ 2147483647 := by rw [← hz32]; exact (by have q : w 345 (D - 1) = w 345 (D - 1) := rfl; have q2 := (hst (D - 1) (by omega) (by omega)); omega)
    have f33 : e_fr (mOt t) w w30 := e_fr.up (e_fr.refl w) hw30 (by unfold mOt mGr; omega)
    have hT34 : e_Has mTy w30 := e_Has.ups hT hw30 rfl
    show e_Ok 20 elay ecode eI (d + 1) 378 (96, [(0, (1, 275)), (1, (0, o)), (2, (0, x))], [(0, z32), (1, 275)], w30) _
    refine e_Ok.callV rfl (by omega) rfl rfl rfl rfl (c_379 (by omega) hT34 (by omega) (by rw [← hw30]; exact (e_up_ne _ _ (Or.inr (by omega))).trans h96) (by rw [← hw30]; exact (e_up_ne _ _ (Or.inr (by omega))).trans h97) (by omega)) (fun r35 w36 h37 => ?_)
    obtain ⟨z38, rfl, q40, q40T, q40k⟩ := h37
    have f41 : e_fr (mOt t) w w36 := e_fr.trans f33 (e_fr.mono q40 (fun c k q => by first | exact su_86_22 q | (unfold mTk at q; unfold mOt mGr; omega)))
    have z38b : 0 ≤ z38 ∧ z38 ≤ 9 := by omega
    show e_Ok 20 elay ecode eI (d + 1) 378 (99, [(0, (1, 275)), (1, (0, o)), (2, (0, x))], [(0, z38)], w36) _
    refine e_Ok.rets rfl rfl ?_
    have e42 : w36 276 5 = w 276 5 := ((q40 276 5 (by first | exact no_86_6 (by omega) | (unfold mTk; omega))).trans (by rw [← hw30]; exact (e_up_ne _ _ (Or.inl (by omega))).trans rfl))
    have ew8 : w36 276 (1260 * t + 424) = w 276 (1260 * t + 424) := ((q40 276 (1260 * t + 424) (by first | exact no_86_7 (by omega) | (unfold mTk; omega))).trans (by rw [← hw30]; exact (e_up_ne _ _ (Or.inl (by omega))).trans rfl))
    have ew9 : w36 276 (1260 * t + 425) = w 276 (1260 * t + 425) := ((q40 276 (1260 * t + 425) (by first | exact no_86_8 (by omega) | (unfold mTk; omega))).trans (by rw [← hw30]; exact (e_up_ne _ _ (Or.inl (by omega))).trans rfl))
    have edp : w36 275 102 = D - 1 := ((q40 275 102 (by first | exact no_86_9 | (unfold mTk; omega))).trans (by rw [← hw30]; exact e_up_eq _ _ _ _))
    exact ⟨_, rfl, by omega, f41, q40T, by omega, (mOr.fr hOr (by omega) (e_Has.orn hT) (e_Has.orw hT (by omega)) (fun k q => by unfold orK at q; exact ((q40 276 k (by unfold mTk; omega)).trans (by rw [← hw30]; exact (e_up_ne _ _ (Or.inl (by omega))).trans rfl)))), (fun b g1 g2 => Or.inr ((q40 276 (36 * b + 20) (by first | exact no_86_10 (by omega) (by omega) | (unfold mTk; omega))).trans (by rw [← hw30]; exact (e_up_ne _ _ (Or.inl (by omega))).trans rfl))), by omega, (fun e => by have := hW (by omega); omega), q40k.elim (fun h => Or.inl ⟨h.2.1.trans (by rw [← hw30]; exact (e_up_ne _ _ (Or.inr (by omega))).trans rfl), h.2.2.1.trans (by rw [← hw30]; exact (e_up_ne _ _ (Or.inl (by omega))).trans rfl)⟩) (fun h => h.elim (fun h => Or.inl ⟨h.2.1.trans (by rw [← hw30]; exact (e_up_ne _ _ (Or.inr (by omega))).trans rfl), h.2.2.trans (by rw [← hw30]; exact (e_up_ne _ _ (Or.inl (by omega))).trans rfl)⟩) (fun h => Or.inr ⟨h.1, h.2.1, h.2.2⟩))⟩
  · refine e_Ok.sw (tg := 100) rfl (by rw [h1]; rfl) ?_
    have hD : D = 1 := by omega
    refine e_Ok.run (t' := (101, [(0, (1, 275)), (1, (0, o)), (2, (0, x))], [(1, 275)], w)) 1 rfl ?_
    refine e_Ok.callV rfl (by omega) rfl rfl rfl rfl (c_364 hT (e := D) (u := D - 1) h102 (by omega) (by omega) (by have q : w 345 (D - 1) = w 345 (D - 1) := rfl; have q2 := (hst (D - 1) (by omega) (by omega)); omega)) (fun r43 w44 h45 => ?_)
    obtain ⟨rfl, hw44⟩ := h45
    generalize hz46 : w 345 (D - 1) = z46
    have z46r : z46 = w 345 (D - 1) := Eq.trans hz46.symm rfl
    have z46b : -2147483648 ≤ z46 ∧ z46 ≤ 2147483647 := by rw [← hz46]; exact (by have q : w 345 (D - 1) = w 345 (D - 1) := rfl; have q2 := (hst (D - 1) (by omega) (by omega)); omega)
    have f47 : e_fr (mOt t) w w44 := e_fr.up (e_fr.refl w) hw44 (by unfold mOt mGr; omega)
    have hT48 : e_Has mTy w44 := e_Has.ups hT hw44 rfl
    show e_Ok 20 elay ecode eI (d + 1) 378 (104, [(0, (1, 275)), (1, (0, o)), (2, (0, x))], [(0, z46)], w44) _
    refine e_Ok.run (t' := (113, [(5, (0, z46)), (0, (1, 275)), (1, (0, o)), (2, (0, x))], [(4, 7), (4, 0), (4, z46)], w44)) 5 rfl ?_
    refine e_Ok.callS rfl (by omega) rfl rfl (c_266) (fun r49 w50 h51 => ?_)
    obtain ⟨z52, rfl, rfl, q53⟩ := h51
    obtain ⟨rfl, q53⟩ | ⟨rfl, q53⟩ := q53
    · show e_Ok 20 elay ecode eI (d + 1) 378 (116, [(5, (0, z46)), (0, (1, 275)), (1, (0, o)), (2, (0, x))], [(0, 1)], w44) _
      refine e_Ok.if1 rfl (fun h54 => ?_) (fun h54 => ?_)
      · replace h54 : (1 : Int) = 0 := h54
        exfalso; omega
      · replace h54 : (1 : Int) ≠ 0 := by have q : ¬ ((1 : Int) = 0) := h54; omega
        refine e_Ok.run (t' := (120, [(5, (0, z46)), (0, (1, 275)), (1, (0, o)), (2, (0, x))], [(1, 275)], w44)) 1 rfl ?_
        refine e_Ok.getr (z := 276) rfl (el_o rfl) rfl rfl (by rw [← hw44]; exact (e_up_ne _ _ (Or.inr (by omega))).trans (e_Has.eq hT rfl)) (by omega) ?_
        refine e_Ok.run (t' := (128, [(5, (0, z46)), (0, (1, 275)), (1, (0, o)), (2, (0, x))], [(0, z46), (0, 20868), (1, 276)], w44)) 2 rfl ?_
        refine e_Ok.add (z := z46 + 20868) rfl (by omega) (by omega) ?_
        have h55 := (e_Has.get hT (c := 276) (k := z46 + 20868) (lo := (-1)) (hi := 15) (nR_LOCK (l := z46) (by omega)) (by decide))
        refine e_Ok.ald (z := w 276 (z46 + 20868)) rfl (el_o rfl) rfl (by omega) (by rw [← hw44]; exact (e_up_ne _ _ (Or.inl (by omega))).trans rfl) (by omega) ?_
        refine e_Ok.run (t' := (131, [(5, (0, z46)), (0, (1, 275)), (1, (0, o)), (2, (0, x))], [(1, 275), (0, w 276 (z46 + 20868))], w44)) 1 rfl ?_
        refine e_Ok.getf (z := t) rfl (el_o rfl) rfl rfl (by rw [← hw44]; exact (e_up_ne _ _ (Or.inr (by omega))).trans h96) (by omega) ?_
        refine e_Ok.if2 rfl (fun h56 => ?_) (fun h56 => ?_)
        · replace h56 : (w 276 (z46 + 20868) : Int) = t := h56
          refine e_Ok.run (t' := (143, [(5, (0, z46)), (0, (1, 275)), (1, (0, o)), (2, (0, x))], [(0, z46), (1, 275)], w44)) 2 rfl ?_
          refine e_Ok.callV rfl (by omega) rfl rfl rfl rfl (c_360 (by omega) hT48 (by omega)) (fun r57 w58 h59 => ?_)
          obtain ⟨rfl, q60, q60T⟩ := h59
          have f61 : e_fr (mOt t) w w58 := e_fr.trans f47 (e_fr.mono q60 (fun c k q => by first | exact su_86_23 q | (unfold mLk at q; unfold mOt mGr; omega)))
          show e_Ok 20 elay ecode eI (d + 1) 378 (146, [(5, (0, z46)), (0, (1, 275)), (1, (0, o)), (2, (0, x))], [], w58) _
          refine e_Ok.run (t' := (147, [(5, (0, z46)), (0, (1, 275)), (1, (0, o)), (2, (0, x))], [(0, 0)], w58)) 1 rfl ?_
          refine e_Ok.rets rfl rfl ?_
          have e62 : w58 276 5 = w 276 5 := ((q60 276 5 no_86_11).trans (by rw [← hw44]; exact (e_up_ne _ _ (Or.inl (by omega))).trans rfl))
          have ew8 : w58 276 (1260 * t + 424) = w 276 (1260 * t + 424) := ((q60 276 (1260 * t + 424) (by first | exact no_86_12 (by omega) | (unfold mLk; omega))).trans (by rw [← hw44]; exact (e_up_ne _ _ (Or.inl (by omega))).trans rfl))
          have ew9 : w58 276 (1260 * t + 425) = w 276 (1260 * t + 425) := ((q60 276 (1260 * t + 425) (by first | exact no_86_13 (by omega) | (unfold mLk; omega))).trans (by rw [← hw44]; exact (e_up_ne _ _ (Or.inl (by omega))).trans rfl))
          have edp : w58 275 102 = D - 1 := ((q60 275 102 no_86_14).trans (by rw [← hw44]; exact e_up_eq _ _ _ _))
          exact ⟨_, rfl, by omega, f61, q60T, by omega, (mOr.fr hOr (by omega) (e_Has.orn hT) (e_Has.orw hT (by omega)) (fun k q => by unfold orK at q; exact ((q60 276 k (by unfold mLk; omega)).trans (by rw [← hw44]; exact (e_up_ne _ _ (Or.inl (by omega))).trans rfl)))), (fun b g1 g2 => Or.inr ((q60 276 (36 * b + 20) (by first | exact no_86_15 (by omega) | (unfold mLk; omega))).trans (by rw [← hw44]; exact (e_up_ne _ _ (Or.inl (by omega))).trans rfl))), by omega, (fun e => by have := hW (by omega); omega), Or.inl ⟨((q60 275 100 no_86_14).trans (by rw [← hw44]; exact (e_up_ne _ _ (Or.inr (by omega))).trans rfl)), ((q60 276 (1260 * t + 416) (by first | exact no_86_16 (by omega) | (unfold mLk; omega))).trans (by rw [← hw44]; exact (e_up_ne _ _ (Or.inl (by omega))).trans rfl))⟩⟩
        · replace h56 : (w 276 (z46 + 20868) : Int) ≠ t := by have q : ¬ ((w 276 (z46 + 20868) : Int) = t) := h56; omega
          refine e_Ok.run (t' := (139, [(5, (0, z46)), (0, (1, 275)), (1, (0, o)), (2, (0, x))], [(0, 9)], w44)) 1 rfl ?_
          refine e_Ok.rets rfl rfl ?_
          have e63 : w44 276 5 = w 276 5 := (by rw [← hw44]; exact (e_up_ne _ _ (Or.inl (by omega))).trans rfl)
          have ew8 : w44 276 (1260 * t + 424) = w 276 (1260 * t + 424) := (by rw [← hw44]; exact (e_up_ne _ _ (Or.inl (by omega))).trans rfl)
          have ew9 : w44 276 (1260 * t + 425) = w 276 (1260 * t + 425) := (by rw [← hw44]; exact (e_up_ne _ _ (Or.inl (by omega))).trans rfl)
          have edp : w44 275 102 = D - 1 := (by rw [← hw44]; exact e_up_eq _ _ _ _)
          exact ⟨_, rfl, by omega, f47, hT48, by omega, (mOr.fr hOr (by omega) (e_Has.orn hT) (e_Has.orw hT (by omega)) (fun k q => by unfold orK at q; exact (by rw [← hw44]; exact (e_up_ne _ _ (Or.inl (by omega))).trans rfl))), (fun b g1 g2 => Or.inr (by rw [← hw44]; exact (e_up_ne _ _ (Or.inl (by omega))).trans rfl)), by omega, (fun e => by have := hW (by omega); omega), Or.inl ⟨(by rw [← hw44]; exact (e_up_ne _ _ (Or.inr (by omega))).trans rfl), (by rw [← hw44]; exact (e_up_ne _ _ (Or.inl (by omega))).trans rfl)⟩⟩
    · show e_Ok 20 elay ecode eI (d + 1) 378 (116, [(5, (0, z46)), (0, (1, 275)), (1, (0, o)), (2, (0, x))], [(0, 0)], w44) _
      refine e_Ok.if1 rfl (fun h64 => ?_) (fun h64 => ?_)
      · replace h64 : (0 : Int) = 0 := h64
        refine e_Ok.run (t' := (139, [(5, (0, z46)), (0, (1, 275)), (1, (0, o)), (2, (0, x))], [(0, 9)], w44)) 1 rfl ?_
        refine e_Ok.rets rfl rfl ?_
        have e65 : w44 276 5 = w 276 5 := (by rw [← hw44]; exact (e_up_ne _ _ (Or.inl (by omega))).trans rfl)
        have ew8 : w44 276 (1260 * t + 424) = w 276 (1260 * t + 424) := (by rw [← hw44]; exact (e_up_ne _ _ (Or.inl (by omega))).trans rfl)
        have ew9 : w44 276 (1260 * t + 425) = w 276 (1260 * t + 425) := (by rw [← hw44]; exact (e_up_ne _ _ (Or.inl (by omega))).trans rfl)
        have edp : w44 275 102 = D - 1 := (by rw [← hw44]; exact e_up_eq _ _ _ _)
        exact ⟨_, rfl, by omega, f47, hT48, by omega, (mOr.fr hOr (by omega) (e_Has.orn hT) (e_Has.orw hT (by omega)) (fun k q => by unfold orK at q; exact (by rw [← hw44]; exact (e_up_ne _ _ (Or.inl (by omega))).trans rfl))), (fun b g1 g2 => Or.inr (by rw [← hw44]; exact (e_up_ne _ _ (Or.inl (by omega))).trans rfl)), by omega, (fun e => by have := hW (by omega); omega), Or.inl ⟨(by rw [← hw44]; exact (e_up_ne _ _ (Or.inr (by omega))).trans rfl), (by rw [← hw44]; exact (e_up_ne _ _ (Or.inl (by omega))).trans rfl)⟩⟩
      · replace h64 : (0 : Int) ≠ 0 := by have q : ¬ ((0 : Int) = 0) := h64; omega
        exfalso; omega
  · refine e_Ok.sw (tg := 251) rfl (by rw [h1]; rfl) ?_
    have hD : D = 0 := by omega
    refine e_Ok.run (t' := (253, [(0, (1, 275)), (1, (0, o)), (2, (0, x))], [(1, 275), (1, 275)], w)) 2 rfl ?_
    refine e_Ok.getf (z := a) rfl (el_o rfl) rfl rfl h98 (by omega) ?_
    refine e_Ok.callV rfl (by omega) rfl rfl rfl rfl (c_396 (by omega) hT (by omega) hOr (by omega)) (fun r66 w67 h68 => ?_)
    obtain ⟨z69, rfl, q70z, q70, q70T, q70n, q70o, q70f⟩ := h68
    have f71 : e_fr (mOt t) w w67 := e_fr.trans (e_fr.refl w) (e_fr.mono q70 (fun c k q => by exact Or.inr (Or.inr (Or.inr (Or.inl q)))))
    show e_Ok 20 elay ecode eI (d + 1) 378 (259, [(0, (1, 275)), (1, (0, o)), (2, (0, x))], [(0, z69)], w67) _
    refine e_Ok.if1 rfl (fun h72 => ?_) (fun h72 => ?_)
    · replace h72 : (z69 : Int) = 0 := h72
      refine e_Ok.run (t' := (268, [(0, (1, 275)), (1, (0, o)), (2, (0, x))], [(0, 7)], w67)) 1 rfl ?_
      refine e_Ok.rets rfl rfl ?_
      have e73 : w67 276 5 = w67 276 5 := rfl
      have ew8 : w67 276 (1260 * t + 424) = w 276 (1260 * t + 424) := ((q70 276 (1260 * t + 424) (by first | exact no_86_17 (by omega) | (unfold mGr; omega))).trans rfl)
      have ew9 : w67 276 (1260 * t + 425) = w 276 (1260 * t + 425) := ((q70 276 (1260 * t + 425) (by first | exact no_86_18 (by omega) | (unfold mGr; omega))).trans rfl)
      have edp : w67 275 102 = D := ((q70 275 102 no_86_19).trans h102)
      exact ⟨_, rfl, by omega, f71, q70T, by omega, q70o, q70f, by omega, (fun e => by have := hW (by omega); omega), Or.inl ⟨((q70 275 100 no_86_19).trans rfl), ((q70 276 (1260 * t + 416) (by first | exact no_86_20 (by omega) | (unfold mGr; omega))).trans rfl)⟩⟩
    · replace h72 : (z69 : Int) ≠ 0 := by have q : ¬ ((z69 : Int) = 0) := h72; omega
      refine e_Ok.run (t' := (268, [(0, (1, 275)), (1, (0, o)), (2, (0, x))], [(0, 0)], w67)) 2 rfl ?_
      refine e_Ok.rets rfl rfl ?_
      have e74 : w67 276 5 = w67 276 5 := rfl
      have ew8 : w67 276 (1260 * t + 424) = w 276 (1260 * t + 424) := ((q70 276 (1260 * t + 424) (by first | exact no_86_17 (by omega) | (unfold mGr; omega))).trans rfl)
      have ew9 : w67 276 (1260 * t + 425) = w 276 (1260 * t + 425) := ((q70 276 (1260 * t + 425) (by first | exact no_86_18 (by omega) | (unfold mGr; omega))).trans rfl)
      have edp : w67 275 102 = D := ((q70 275 102 no_86_19).trans h102)
      exact ⟨_, rfl, by omega, f71, q70T, by omega, q70o, q70f, by omega, (fun e => by have := hW (by omega); omega), Or.inl ⟨((q70 275 100 no_86_19).trans rfl), ((q70 276 (1260 * t + 416) (by first | exact no_86_20 (by omega) | (unfold mGr; omega))).trans rfl)⟩⟩
  · refine e_Ok.sw (tg := 269) rfl (by rw [h1]; rfl) ?_
    have hD : D = 0 := by omega
    refine e_Ok.run (t' := (271, [(0, (1, 275)), (1, (0, o)), (2, (0, x))], [(1, 275), (1, 275)], w)) 2 rfl ?_
    refine e_Ok.getf (z := a) rfl (el_o rfl) rfl rfl h98 (by omega) ?_
    refine e_Ok.callV rfl (by omega) rfl rfl rfl rfl (c_397 (by omega) hT (by omega) hOr (by omega)) (fun r75 w76 h77 => ?_)
    obtain ⟨z78, rfl, q79z, q79, q79T, q79n, q79o, q79f⟩ := h77
    have f80 : e_fr (mOt t) w w76 := e_fr.trans (e_fr.refl w) (e_fr.mono q79 (fun c k q => by exact Or.inr (Or.inr (Or.inr (Or.inl q)))))
    show e_Ok 20 elay ecode eI (d + 1) 378 (277, [(0, (1, 275)), (1, (0, o)), (2, (0, x))], [(0, z78)], w76) _
    refine e_Ok.if1 rfl (fun h81 => ?_) (fun h81 => ?_)
    · replace h81 : (z78 : Int) = 0 := h81
      refine e_Ok.run (t' := (286, [(0, (1, 275)), (1, (0, o)), (2, (0, x))], [(0, 7)], w76)) 1 rfl ?_
      refine e_Ok.rets rfl rfl ?_
      have e82 : w76 276 5 = w76 276 5 := rfl
      have ew8 : w76 276 (1260 * t + 424) = w 276 (1260 * t + 424) := ((q79 276 (1260 * t + 424) (by first | exact no_86_17 (by omega) | (unfold mGr; omega))).trans rfl)
      have ew9 : w76 276 (1260 * t + 425) = w 276 (1260 * t + 425) := ((q79 276 (1260 * t + 425) (by first | exact no_86_18 (by omega) | (unfold mGr; omega))).trans rfl)
      have edp : w76 275 102 = D := ((q79 275 102 no_86_19).trans h102)
      exact ⟨_, rfl, by omega, f80, q79T, by omega, q79o, q79f, by omega, (fun e => by have := hW (by omega); omega), Or.inl ⟨((q79 275 100 no_86_19).trans rfl), ((q79 276 (1260 * t + 416) (by first | exact no_86_20 (by omega) | (unfold mGr; omega))).trans rfl)⟩⟩
    · replace h81 : (z78 : Int) ≠ 0 := by have q : ¬ ((z78 : Int) = 0) := h81; omega
      refine e_Ok.run (t' := (286, [(0, (1, 275)), (1, (0, o)), (2, (0, x))], [(0, 0)], w76)) 2 rfl ?_
      refine e_Ok.rets rfl rfl ?_
      have e83 : w76 276 5 = w76 276 5 := rfl
      have ew8 : w76 276 (1260 * t + 424) = w 276 (1260 * t + 424) := ((q79 276 (1260 * t + 424) (by first | exact no_86_17 (by omega) | (unfold mGr; omega))).trans rfl)
      have ew9 : w76 276 (1260 * t + 425) = w 276 (1260 * t + 425) := ((q79 276 (1260 * t + 425) (by first | exact no_86_18 (by omega) | (unfold mGr; omega))).trans rfl)
      have edp : w76 275 102 = D := ((q79 275 102 no_86_19).trans h102)
      exact ⟨_, rfl, by omega, f80, q79T, by omega, q79o, q79f, by omega, (fun e => by have := hW (by omega); omega), Or.inl ⟨((q79 275 100 no_86_19).trans rfl), ((q79 276 (1260 * t + 416) (by first | exact no_86_20 (by omega) | (unfold mGr; omega))).trans rfl)⟩⟩
  · refine e_Ok.sw (tg := 167) rfl (by rw [h1]; rfl) ?_
    have hD : D = 1 := by omega
    refine e_Ok.run (t' := (168, [(0, (1, 275)), (1, (0, o)), (2, (0, x))], [(1, 275)], w)) 1 rfl ?_
    refine e_Ok.callV rfl (by omega) rfl rfl rfl rfl (c_364 hT (e := D) (u := D - 1) h102 (by omega) (by omega) (by have q : w 345 (D - 1) = w 345 (D - 1) := rfl; have q2 := (hst (D - 1) (by omega) (by omega)); omega)) (fun r84 w85 h86 => ?_)
    obtain ⟨rfl, hw85⟩ := h86
    generalize hz87 : w 345 (D - 1) = z87
    have z87r : z87 = w 345 (D - 1) := Eq.trans hz87.symm rfl
    have z87b : -2147483648 ≤ z87 ∧ z87 ≤ 2147483647 := by rw [← hz87]; exact (by have q : w 345 (D - 1) = w 345 (D - 1) := rfl; have q2 := (hst (D - 1) (by omega) (by omega)); omega)
    have f88 : e_fr (mOt t) w w85 := e_fr.up (e_fr.refl w) hw85 (by unfold mOt mGr; omega)
    have hT89 : e_Has mTy w85 := e_Has.ups hT hw85 rfl
    show e_Ok 20 elay ecode eI (d + 1) 378 (171, [(0, (1, 275)), (1, (0, o)), (2, (0, x))], [(0, z87)], w85) _
    refine e_Ok.run (t' := (182, [(6, (0, z87)), (0, (1, 275)), (1, (0, o)), (2, (0, x))], [(4, 63), (4, (-1)), (4, z87)], w85)) 5 rfl ?_
    refine e_Ok.callS rfl (by omega) rfl rfl (c_266) (fun r90 w91 h92 => ?_)
    obtain ⟨z93, rfl, rfl, q94⟩ := h92
    obtain ⟨rfl, q94⟩ | ⟨rfl, q94⟩ := q94
    · show e_Ok 20 elay ecode eI (d + 1) 378 (185, [(6, (0, z87)), (0, (1, 275)), (1, (0, o)), (2, (0, x))], [(0, 1)], w85) _
      refine e_Ok.if1 rfl (fun h95 => ?_) (fun h95 => ?_)
      · replace h95 : (1 : Int) ≠ 0 := h95
        have hxx := hx (by omega)
        refine e_Ok.run (t' := (191, [(6, (0, z87)), (0, (1, 275)), (1, (0, o)), (2, (0, x))], [(1, 275)], w85)) 1 rfl ?_
        refine e_Ok.getr (z := 276) rfl (el_o rfl) rfl rfl (by rw [← hw85]; exact (e_up_ne _ _ (Or.inr (by omega))).trans (e_Has.eq hT rfl)) (by omega) ?_
        refine e_Ok.run (t' := (195, [(6, (0, z87)), (0, (1, 275)), (1, (0, o)), (2, (0, x))], [(1, 275), (1, 276)], w85)) 1 rfl ?_
        refine e_Ok.getf (z := 1260 * t + 416) rfl (el_o rfl) rfl rfl (by rw [← hw85]; exact (e_up_ne _ _ (Or.inr (by omega))).trans h97) (by omega) ?_
        refine e_Ok.run (t' := (200, [(6, (0, z87)), (0, (1, 275)), (1, (0, o)), (2, (0, x))], [(0, 8), (0, 1260 * t + 416), (1, 276)], w85)) 1 rfl ?_
        refine e_Ok.add (z := 1260 * t + 424) rfl (by omega) (by omega) ?_
        refine e_Ok.run (t' := (203, [(6, (0, z87)), (0, (1, 275)), (1, (0, o)), (2, (0, x))], [(0, z87), (0, 1260 * t + 424), (1, 276)], w85)) 1 rfl ?_
        refine e_Ok.ast rfl (el_o rfl) rfl rfl (by omega) ?_
        generalize hw101 : e_up w85 276 (1260 * t + 424) z87 = w101
        have f103 : e_fr (mOt t) w w101 := e_fr.up f88 hw101 (by unfold mOt mGr; omega)
        have hT104 : e_Has mTy w101 := e_Has.upr hT89 hw101 (nR_WATCHED (t := t) (by omega)) (by omega)
        refine e_Ok.run (t' := (205, [(6, (0, z87)), (0, (1, 275)), (1, (0, o)), (2, (0, x))], [(1, 275)], w101)) 1 rfl ?_
        refine e_Ok.getr (z := 276) rfl (el_o rfl) rfl rfl (by rw [← hw101]; exact (e_up_ne _ _ (Or.inl (by omega))).trans (by rw [← hw85]; exact (e_up_ne _ _ (Or.inr (by omega))).trans (e_Has.eq hT rfl))) (by omega) ?_
        refine e_Ok.run (t' := (209, [(6, (0, z87)), (0, (1, 275)), (1, (0, o)), (2, (0, x))], [(1, 275), (1, 276)], w101)) 1 rfl ?_
        refine e_Ok.getf (z := 1260 * t + 416) rfl (el_o rfl) rfl rfl (by rw [← hw101]; exact (e_up_ne _ _ (Or.inl (by omega))).trans (by rw [← hw85]; exact (e_up_ne _ _ (Or.inr (by omega))).trans h97)) (by omega) ?_
        refine e_Ok.run (t' := (214, [(6, (0, z87)), (0, (1, 275)), (1, (0, o)), (2, (0, x))], [(0, 9), (0, 1260 * t + 416), (1, 276)], w101)) 1 rfl ?_
        refine e_Ok.add (z := 1260 * t + 425) rfl (by omega) (by omega) ?_
        refine e_Ok.run (t' := (216, [(6, (0, z87)), (0, (1, 275)), (1, (0, o)), (2, (0, x))], [(0, x), (0, 1260 * t + 425), (1, 276)], w101)) 1 rfl ?_
        refine e_Ok.ast rfl (el_o rfl) rfl rfl (by omega) ?_
        generalize hw105 : e_up w101 276 (1260 * t + 425) x = w105
        have f106 : e_fr (mOt t) w w105 := e_fr.up f103 hw105 (by unfold mOt mGr; omega)
        have hT107 : e_Has mTy w105 := e_Has.upr hT104 hw105 (nR_WATCHER (t := t) (by omega)) (by omega)
        refine e_Ok.run (t' := (218, [(6, (0, z87)), (0, (1, 275)), (1, (0, o)), (2, (0, x))], [(1, 275)], w105)) 1 rfl ?_
        refine e_Ok.getr (z := 276) rfl (el_o rfl) rfl rfl (by rw [← hw105]; exact (e_up_ne _ _ (Or.inl (by omega))).trans (by rw [← hw101]; exact (e_up_ne _ _ (Or.inl (by omega))).trans (by rw [← hw85]; exact (e_up_ne _ _ (Or.inr (by omega))).trans (e_Has.eq hT rfl)))) (by omega) ?_
        refine e_Ok.run (t' := (222, [(6, (0, z87)), (0, (1, 275)), (1, (0, o)), (2, (0, x))], [(1, 275), (1, 276)], w105)) 1 rfl ?_
        refine e_Ok.getf (z := 1260 * t + 416) rfl (el_o rfl) rfl rfl (by rw [← hw105]; exact (e_up_ne _ _ (Or.inl (by omega))).trans (by rw [← hw101]; exact (e_up_ne _ _ (Or.inl (by omega))).trans (by rw [← hw85]; exact (e_up_ne _ _ (Or.inr (by omega))).trans h97))) (by omega) ?_
        refine e_Ok.run (t' := (227, [(6, (0, z87)), (0, (1, 275)), (1, (0, o)), (2, (0, x))], [(0, 10), (0, 1260 * t + 416), (1, 276)], w105)) 1 rfl ?_
        refine e_Ok.add (z := 1260 * t + 426) rfl (by omega) (by omega) ?_
        refine e_Ok.run (t' := (230, [(6, (0, z87)), (0, (1, 275)), (1, (0, o)), (2, (0, x))], [(0, z87), (0, 1260 * t + 426), (1, 276)], w105)) 1 rfl ?_
        refine e_Ok.if1 rfl (fun h108 => ?_) (fun h108 => ?_)
        · replace h108 : (z87 : Int) ≥ 0 := h108
          refine e_Ok.run (t' := (238, [(6, (0, z87)), (0, (1, 275)), (1, (0, o)), (2, (0, x))], [(1, 275), (0, 1260 * t + 426), (1, 276)], w105)) 1 rfl ?_
          refine e_Ok.getr (z := 276) rfl (el_o rfl) rfl rfl (by rw [← hw105]; exact (e_up_ne _ _ (Or.inl (by omega))).trans (by rw [← hw101]; exact (e_up_ne _ _ (Or.inl (by omega))).trans (by rw [← hw85]; exact (e_up_ne _ _ (Or.inr (by omega))).trans (e_Has.eq hT rfl)))) (by omega) ?_
          refine e_Ok.run (t' := (246, [(6, (0, z87)), (0, (1, 275)), (1, (0, o)), (2, (0, x))], [(0, z87), (0, 352), (1, 276), (0, 1260 * t + 426), (1, 276)], w105)) 2 rfl ?_
          refine e_Ok.add (z := z87 + 352) rfl (by omega) (by omega) ?_
          have h109 := (e_Has.get hT (c := 276) (k := z87 + 352) (lo := (-2147483648)) (hi := 2147483647) (nR_RISES (p := z87) (by omega)) (by decide))
          refine e_Ok.ald (z := w 276 (z87 + 352)) rfl (el_o rfl) rfl (by omega) (by rw [← hw105]; exact (e_up_ne _ _ (Or.inr (by omega))).trans (by rw [← hw101]; exact (e_up_ne _ _ (Or.inr (by omega))).trans (by rw [← hw85]; exact (e_up_ne _ _ (Or.inl (by omega))).trans rfl))) (by omega) ?_
          refine e_Ok.ast rfl (el_o rfl) rfl rfl (by omega) ?_
          generalize hw110 : e_up w105 276 (1260 * t + 426) (w 276 (z87 + 352)) = w110
          have f111 : e_fr (mOt t) w w110 := e_fr.up f106 hw110 (by unfold mOt mGr; omega)
          have hT112 : e_Has mTy w110 := e_Has.upr hT107 hw110 (nR_KEPT (t := t) (by omega)) (by omega)
          refine e_Ok.run (t' := (250, [(6, (0, z87)), (0, (1, 275)), (1, (0, o)), (2, (0, x))], [(0, 0)], w110)) 1 rfl ?_
          refine e_Ok.rets rfl rfl ?_
          have e113 : w110 276 5 = w 276 5 := (by rw [← hw110]; exact (e_up_ne _ _ (Or.inr (by omega))).trans (by rw [← hw105]; exact (e_up_ne _ _ (Or.inr (by omega))).trans (by rw [← hw101]; exact (e_up_ne _ _ (Or.inr (by omega))).trans (by rw [← hw85]; exact (e_up_ne _ _ (Or.inl (by omega))).trans rfl))))
          have ew8 : w110 276 (1260 * t + 424) = z87 := (by rw [← hw110]; exact (e_up_ne _ _ (Or.inr (by omega))).trans (by rw [← hw105]; exact (e_up_ne _ _ (Or.inr (by omega))).trans (by rw [← hw101]; exact e_up_eq _ _ _ _)))
          have ew9 : w110 276 (1260 * t + 425) = x := (by rw [← hw110]; exact (e_up_ne _ _ (Or.inr (by omega))).trans (by rw [← hw105]; exact e_up_eq _ _ _ _))
          have edp : w110 275 102 = D - 1 := (by rw [← hw110]; exact (e_up_ne _ _ (Or.inl (by omega))).trans (by rw [← hw105]; exact (e_up_ne _ _ (Or.inl (by omega))).trans (by rw [← hw101]; exact (e_up_ne _ _ (Or.inl (by omega))).trans (by rw [← hw85]; exact e_up_eq _ _ _ _))))
          exact ⟨_, rfl, by omega, f111, hT112, by omega, (mOr.fr hOr (by omega) (e_Has.orn hT) (e_Has.orw hT (by omega)) (fun k q => by unfold orK at q; exact (by rw [← hw110]; exact (e_up_ne _ _ (Or.inr (by omega))).trans (by rw [← hw105]; exact (e_up_ne _ _ (Or.inr (by omega))).trans (by rw [← hw101]; exact (e_up_ne _ _ (Or.inr (by omega))).trans (by rw [← hw85]; exact (e_up_ne _ _ (Or.inl (by omega))).trans rfl)))))), (fun b g1 g2 => Or.inr (by rw [← hw110]; exact (e_up_ne _ _ (Or.inr (by omega))).trans (by rw [← hw105]; exact (e_up_ne _ _ (Or.inr (by omega))).trans (by rw [← hw101]; exact (e_up_ne _ _ (Or.inr (by omega))).trans (by rw [← hw85]; exact (e_up_ne _ _ (Or.inl (by omega))).trans rfl))))), by omega, (fun e => by have := hx (by omega); omega), Or.inl ⟨(by rw [← hw110]; exact (e_up_ne _ _ (Or.inl (by omega))).trans (by rw [← hw105]; exact (e_up_ne _ _ (Or.inl (by omega))).trans (by rw [← hw101]; exact (e_up_ne _ _ (Or.inl (by omega))).trans (by rw [← hw85]; exact (e_up_ne _ _ (Or.inr (by omega))).trans rfl)))), (by rw [← hw110]; exact (e_up_ne _ _ (Or.inr (by omega))).trans (by rw [← hw105]; exact (e_up_ne _ _ (Or.inr (by omega))).trans (by rw [← hw101]; exact (e_up_ne _ _ (Or.inr (by omega))).trans (by rw [← hw85]; exact (e_up_ne _ _ (Or.inl (by omega))).trans rfl))))⟩⟩
        · replace h108 : (z87 : Int) < 0 := by have q : ¬ ((z87 : Int) ≥ 0) := h108; omega
          refine e_Ok.run (t' := (248, [(6, (0, z87)), (0, (1, 275)), (1, (0, o)), (2, (0, x))], [(0, 0), (0, 1260 * t + 426), (1, 276)], w105)) 2 rfl ?_
          refine e_Ok.ast rfl (el_o rfl) rfl rfl (by omega) ?_
          generalize hw114 : e_up w105 276 (1260 * t + 426) 0 = w114
          have f115 : e_fr (mOt t) w w114 := e_fr.up f106 hw114 (by unfold mOt mGr; omega)
          have hT116 : e_Has mTy w114 := e_Has.upr hT107 hw114 (nR_KEPT (t := t) (by omega)) (by omega)
          refine e_Ok.run (t' := (250, [(6, (0, z87)), (0, (1, 275)), (1, (0, o)), (2, (0, x))], [(0, 0)], w114)) 1 rfl ?_
          refine e_Ok.rets rfl rfl ?_
          have e117 : w114 276 5 = w 276 5 := (by rw [← hw114]; exact (e_up_ne _ _ (Or.inr (by omega))).trans (by rw [← hw105]; exact (e_up_ne _ _ (Or.inr (by omega))).trans (by rw [← hw101]; exact (e_up_ne _ _ (Or.inr (by omega))).trans (by rw [← hw85]; exact (e_up_ne _ _ (Or.inl (by omega))).trans rfl))))
          have ew8 : w114 276 (1260 * t + 424) = z87 := (by rw [← hw114]; exact (e_up_ne _ _ (Or.inr (by omega))).trans (by rw [← hw105]; exact (e_up_ne _ _ (Or.inr (by omega))).trans (by rw [← hw101]; exact e_up_eq _ _ _ _)))
          have ew9 : w114 276 (1260 * t + 425) = x := (by rw [← hw114]; exact (e_up_ne _ _ (Or.inr (by omega))).trans (by rw [← hw105]; exact e_up_eq _ _ _ _))
          have edp : w114 275 102 = D - 1 := (by rw [← hw114]; exact (e_up_ne _ _ (Or.inl (by omega))).trans (by rw [← hw105]; exact (e_up_ne _ _ (Or.inl (by omega))).trans (by rw [← hw101]; exact (e_up_ne _ _ (Or.inl (by omega))).trans (by rw [← hw85]; exact e_up_eq _ _ _ _))))
          exact ⟨_, rfl, by omega, f115, hT116, by omega, (mOr.fr hOr (by omega) (e_Has.orn hT) (e_Has.orw hT (by omega)) (fun k q => by unfold orK at q; exact (by rw [← hw114]; exact (e_up_ne _ _ (Or.inr (by omega))).trans (by rw [← hw105]; exact (e_up_ne _ _ (Or.inr (by omega))).trans (by rw [← hw101]; exact (e_up_ne _ _ (Or.inr (by omega))).trans (by rw [← hw85]; exact (e_up_ne _ _ (Or.inl (by omega))).trans rfl)))))), (fun b g1 g2 => Or.inr (by rw [← hw114]; exact (e_up_ne _ _ (Or.inr (by omega))).trans (by rw [← hw105]; exact (e_up_ne _ _ (Or.inr (by omega))).trans (by rw [← hw101]; exact (e_up_ne _ _ (Or.inr (by omega))).trans (by rw [← hw85]; exact (e_up_ne _ _ (Or.inl (by omega))).trans rfl))))), by omega, (fun e => by have := hx (by omega); omega), Or.inl ⟨(by rw [← hw114]; exact (e_up_ne _ _ (Or.inl (by omega))).trans (by rw [← hw105]; exact (e_up_ne _ _ (Or.inl (by omega))).trans (by rw [← hw101]; exact (e_up_ne _ _ (Or.inl (by omega))).trans (by rw [← hw85]; exact (e_up_ne _ _ (Or.inr (by omega))).trans rfl)))), (by rw [← hw114]; exact (e_up_ne _ _ (Or.inr (by omega))).trans (by rw [← hw105]; exact (e_up_ne _ _ (Or.inr (by omega))).trans (by rw [← hw101]; exact (e_up_ne _ _ (Or.inr (by omega))).trans (by rw [← hw85]; exact (e_up_ne _ _ (Or.inl (by omega))).trans rfl))))⟩⟩
      · replace h95 : (1 : Int) = 0 := by have q : ¬ ((1 : Int) ≠ 0) := h95; omega
        exfalso; omega
    · show e_Ok 20 elay ecode eI (d + 1) 378 (185, [(6, (0, z87)), (0, (1, 275)), (1, (0, o)), (2, (0, x))], [(0, 0)], w85) _
      refine e_Ok.if1 rfl (fun h118 => ?_) (fun h118 => ?_)
      · replace h118 : (0 : Int) ≠ 0 := h118
        exfalso; omega
      · replace h118 : (0 : Int) = 0 := by have q : ¬ ((0 : Int) ≠ 0) := h118; omega
        refine e_Ok.run (t' := (189, [(6, (0, z87)), (0, (1, 275)), (1, (0, o)), (2, (0, x))], [(0, 2)], w85)) 1 rfl ?_
        refine e_Ok.rets rfl rfl ?_
        have e119 : w85 276 5 = w 276 5 := (by rw [← hw85]; exact (e_up_ne _ _ (Or.inl (by omega))).trans rfl)
        have ew8 : w85 276 (1260 * t + 424) = w 276 (1260 * t + 424) := (by rw [← hw85]; exact (e_up_ne _ _ (Or.inl (by omega))).trans rfl)
        have ew9 : w85 276 (1260 * t + 425) = w 276 (1260 * t + 425) := (by rw [← hw85]; exact (e_up_ne _ _ (Or.inl (by omega))).trans rfl)
        have edp : w85 275 102 = D - 1 := (by rw [← hw85]; exact e_up_eq _ _ _ _)
        exact ⟨_, rfl, by omega, f88, hT89, by omega, (mOr.fr hOr (by omega) (e_Has.orn hT) (e_Has.orw hT (by omega)) (fun k q => by unfold orK at q; exact (by rw [← hw85]; exact (e_up_ne _ _ (Or.inl (by omega))).trans rfl))), (fun b g1 g2 => Or.inr (by rw [← hw85]; exact (e_up_ne _ _ (Or.inl (by omega))).trans rfl)), by omega, (fun e => by have := hW (by omega); omega), Or.inl ⟨(by rw [← hw85]; exact (e_up_ne _ _ (Or.inr (by omega))).trans rfl), (by rw [← hw85]; exact (e_up_ne _ _ (Or.inl (by omega))).trans rfl)⟩⟩
end
