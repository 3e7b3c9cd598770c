noncomputable section
def mOt (t c k : Int) : Prop := (c = 275 ∧ (k = 100 ∨ k = 102)) ∨ c = 326 ∨ c = 327 ∨ mGr c k ∨ (c = 276 ∧ ((160 ≤ k ∧ k ≤ 223) ∨ (352 ≤ k ∧ k ≤ 415) ∨ (20868 ≤ k ∧ k ≤ 20875) ∨ k = 6 ∨ k = 1260 * t + 416 ∨ k = 1260 * t + 421 ∨ k = 1260 * t + 422 ∨ k = 1260 * t + 424 ∨ k = 1260 * t + 425 ∨ k = 1260 * t + 426))
set_option maxHeartbeats 4000000 in
theorem c_378 {d : Nat} (hd : 31 ≤ d) {w : eW} (hT : e_Has mTy w) (hA : mAc w) (hOr : mOr w (w 275 40)) {t a o x D : Int} (ht : 0 ≤ t ∧ t ≤ 15) (ha : 0 ≤ a ∧ a ≤ 3) (h96 : w 275 96 = t) (h97 : w 275 97 = 1260 * t + 416) (h98 : w 275 98 = a) (ho : o = 35 ∨ o = 36 ∨ o = 37 ∨ o = 42 ∨ o = 43 ∨ o = 44) (hD2 : o = 35 → D = 2) (hD1 : o = 36 ∨ o = 37 ∨ o = 44 → D = 1) (hD0 : o = 42 ∨ o = 43 → D = 0) (hx : o = 44 → 0 ≤ x ∧ x < w 338 a) (hW : 0 ≤ w 276 (1260 * t + 424) → w 276 (1260 * t + 425) < w 338 a) (h102 : w 275 102 = D) (hst : e_kn w 345 0 (D - 1)) (hE : w 276 5 ≤ 2147483600) : e_Ok 20 elay ecode eI d 378 (0, [(0, (1, 275)), (1, (0, o)), (2, (0, x))], [], w) (fun r w' => ∃ z : Int, r = [(0, z)] ∧ (0 ≤ z ∧ z ≤ 10) ∧ e_fr (mOt t) w w' ∧ e_Has mTy w' ∧ (w 276 5 ≤ w' 276 5 ∧ w' 276 5 ≤ w 276 5 + 1) ∧ mOr w' (w 275 40) ∧ (∀ b, 0 ≤ b → b ≤ 3 → w' 276 (36 * b + 20) = 0 ∨ w' 276 (36 * b + 20) = w 276 (36 * b + 20)) ∧ w' 275 102 = 0 ∧ (0 ≤ w' 276 (1260 * t + 424) → w' 276 (1260 * t + 425) < w 338 a) ∧ ((w' 275 100 = w 275 100 ∧ w' 276 (1260 * t + 416) = w 276 (1260 * t + 416)) ∨ (z = 0 ∧ w' 275 100 = 1 ∧ w' 276 (1260 * t + 416) = 5))) := by
  obtain ⟨d, rfl⟩ : ∃ e, d = e + 1 := ⟨d - 1, by first | decide | omega⟩
  have hpp := e_Has.get hT (c := 275) (k := 40) (lo := 0) (hi := 32) rfl (by decide)
  have hrn := e_Has.get hT (c := 338) (k := a) (lo := 0) (hi := 32) rfl (by decide)
  refine e_Ok.run (t' := (1, [(0, (1, 275)), (1, (0, o)), (2, (0, x))], [(0, o)], w)) 1 rfl ?_
  have hs2 : ∀ x : Int, 35 ≤ x ∧ x ≤ 44 ∧ x ≠ 38 ∧ x ≠ 39 ∧ x ≠ 40 ∧ x ≠ 41 → (x = 35) ∨ (x = 36) ∨ (x = 37) ∨ (x = 42) ∨ (x = 43) ∨ (x = 44) := fun x h => by first | decide | omega
  obtain h1 | h1 | h1 | h1 | h1 | h1 := hs2 (o) (by first | decide | omega)
  · refine e_Ok.sw (tg := 56) rfl (by rw [h1]; rfl) ?_
    have hD : D = 2 := by first | decide | omega
    refine e_Ok.run (t' := (57, [(0, (1, 275)), (1, (0, o)), (2, (0, x))], [(1, 275)], w)) 1 rfl ?_
    refine e_Ok.callV rfl (by first | exact Nat.le_of_succ_le_succ (Nat.le_trans (by decide) hd) | omega) rfl rfl rfl rfl (c_364 hT (e := D) (u := D - 1) h102 (by first | decide | omega) (by first | decide | omega) (by have q : w 345 (D - 1) = w 345 (D - 1) := rfl; have q2 := (hst (D - 1) (by first | decide | omega) (by first | decide | omega)); omega)) (fun r3 w4 h5 => ?_)
    obtain ⟨rfl, hw4⟩ := h5
    generalize hz6 : w 345 (D - 1) = z6
    have z6r : z6 = w 345 (D - 1) := Eq.trans hz6.symm rfl
    have z6b : -2147483648 ≤ z6 ∧ z6 ≤ 2147483647 := by rw [← hz6]; exact (by have q : w 345 (D - 1) = w 345 (D - 1) := rfl; have q2 := (hst (D - 1) (by first | decide | omega) (by first | decide | omega)); omega)
    have f7 : e_fr (mOt t) w w4 := e_fr.up (e_fr.refl w) hw4 (by unfold mOt mGr; first | decide +kernel | omega)
    have hT8 : e_Has mTy w4 := e_Has.ups hT hw4 rfl
    show e_Ok 20 elay ecode eI (d + 1) 378 (60, [(0, (1, 275)), (1, (0, o)), (2, (0, x))], [(0, z6)], w4) _
    refine e_Ok.run (t' := (62, [(3, (0, z6)), (0, (1, 275)), (1, (0, o)), (2, (0, x))], [(1, 275)], w4)) 2 rfl ?_
    refine e_Ok.callV rfl (by first | exact Nat.le_of_succ_le_succ (Nat.le_trans (by decide) hd) | omega) rfl rfl rfl rfl (c_364 hT8 (e := D - 1) (u := D - 2) (e_upe hw4) (by first | decide | omega) (by first | decide | omega) (by have q : w4 345 (D - 2) = w 345 (D - 2) := ((e_upn hw4 (Or.inl (by first | decide | omega))).trans rfl); have q2 := (hst (D - 2) (by first | decide | omega) (by first | decide | omega)); omega)) (fun r9 w10 h11 => ?_)
    obtain ⟨rfl, hw10⟩ := h11
    generalize hz12 : w4 345 (D - 2) = z12
    have z12r : z12 = w 345 (D - 2) := Eq.trans hz12.symm ((e_upn hw4 (Or.inl (by first | decide | omega))).trans rfl)
    have z12b : -2147483648 ≤ z12 ∧ z12 ≤ 2147483647 := by rw [← hz12]; exact (by have q : w4 345 (D - 2) = w 345 (D - 2) := ((e_upn hw4 (Or.inl (by first | decide | omega))).trans rfl); have q2 := (hst (D - 2) (by first | decide | omega) (by first | decide | omega)); omega)
    have f13 : e_fr (mOt t) w w10 := e_fr.up f7 hw10 (by unfold mOt mGr; first | decide +kernel | omega)
    have hT14 : e_Has mTy w10 := e_Has.ups hT8 hw10 rfl
    show e_Ok 20 elay ecode eI (d + 1) 378 (65, [(3, (0, z6)), (0, (1, 275)), (1, (0, o)), (2, (0, x))], [(0, z12)], w10) _
    refine e_Ok.run (t' := (74, [(4, (0, z12)), (3, (0, z6)), (0, (1, 275)), (1, (0, o)), (2, (0, x))], [(4, 63), (4, 0), (4, z12)], w10)) 5 rfl ?_
    refine e_Ok.callS rfl (by first | exact Nat.le_of_succ_le_succ (Nat.le_trans (by decide) hd) | omega) rfl rfl (c_266) (fun r15 w16 h17 => ?_)
    obtain ⟨z18, rfl, rfl, q19⟩ := h17
    obtain ⟨rfl, q19⟩ | ⟨rfl, q19⟩ := q19
    · show e_Ok 20 elay ecode eI (d + 1) 378 (77, [(4, (0, z12)), (3, (0, z6)), (0, (1, 275)), (1, (0, o)), (2, (0, x))], [(0, 1)], w10) _
      refine e_Ok.if1 rfl (fun h20 => ?_) (fun h20 => ?_)
      · replace h20 : (1 : Int) ≠ 0 := h20
        refine e_Ok.run (t' := (86, [(4, (0, z12)), (3, (0, z6)), (0, (1, 275)), (1, (0, o)), (2, (0, x))], [(0, z6), (0, z12), (1, 275)], w10)) 3 rfl ?_
        refine e_Ok.callV rfl (by first | exact Nat.le_of_succ_le_succ (Nat.le_trans (by decide) hd) | omega) rfl rfl rfl rfl (c_323 (by first | exact Nat.le_of_succ_le_succ (Nat.le_trans (by decide) hd) | omega) hT14 (mAc.fr' (fun k q => by revert q; unfold mOt mGr; omega) f13 hA) (by first | decide | omega) (by first | decide | omega)) (fun r21 w22 h23 => ?_)
        obtain ⟨rfl, q24, q24T⟩ := h23
        have f25 : e_fr (mOt t) w w22 := e_fr.trans f13 (e_fr.mono q24 (fun c k q => by unfold mO at q; unfold mOt mGr; omega))
        show e_Ok 20 elay ecode eI (d + 1) 378 (89, [(4, (0, z12)), (3, (0, z6)), (0, (1, 275)), (1, (0, o)), (2, (0, x))], [], w22) _
        refine e_Ok.run (t' := (90, [(4, (0, z12)), (3, (0, z6)), (0, (1, 275)), (1, (0, o)), (2, (0, x))], [(0, 0)], w22)) 1 rfl ?_
        refine e_Ok.rets rfl rfl ?_
        have e26 : w22 276 5 = w 276 5 := ((q24 276 5 (by unfold mO; first | decide +kernel | omega)).trans ((e_upn hw10 (Or.inl (by first | decide | omega))).trans ((e_upn hw4 (Or.inl (by first | decide | omega))).trans rfl)))
        have ew8 : w22 276 (1260 * t + 424) = w 276 (1260 * t + 424) := ((q24 276 (1260 * t + 424) (by unfold mO; first | decide +kernel | omega)).trans ((e_upn hw10 (Or.inl (by first | decide | omega))).trans ((e_upn hw4 (Or.inl (by first | decide | omega))).trans rfl)))
        have ew9 : w22 276 (1260 * t + 425) = w 276 (1260 * t + 425) := ((q24 276 (1260 * t + 425) (by unfold mO; first | decide +kernel | omega)).trans ((e_upn hw10 (Or.inl (by first | decide | omega))).trans ((e_upn hw4 (Or.inl (by first | decide | omega))).trans rfl)))
        have edp : w22 275 102 = D - 2 := ((q24 275 102 (by unfold mO; first | decide +kernel | omega)).trans (e_upe hw10))
        exact ⟨_, rfl, by first | decide | omega, f25, q24T, by first | decide | omega, (mOr.fr hOr (by first | decide | omega) (e_Has.orn hT) (e_Has.orw hT (by first | decide | omega)) (fun k q => by unfold orK at q; exact ((q24 276 k (by unfold mO; first | decide +kernel | omega)).trans ((e_upn hw10 (Or.inl (by first | decide | omega))).trans ((e_upn hw4 (Or.inl (by first | decide | omega))).trans rfl))))), (fun b g1 g2 => Or.inr ((q24 276 (36 * b + 20) (by unfold mO; first | decide +kernel | omega)).trans ((e_upn hw10 (Or.inl (by first | decide | omega))).trans ((e_upn hw4 (Or.inl (by first | decide | omega))).trans rfl)))), by first | decide | omega, (fun e => by have := hW (by first | decide | omega); omega), Or.inl ⟨((q24 275 100 (by unfold mO; first | decide +kernel | omega)).trans ((e_upn hw10 (Or.inr (by first | decide | omega))).trans ((e_upn hw4 (Or.inr (by first | decide | omega))).trans rfl))), ((q24 276 (1260 * t + 416) (by unfold mO; first | decide +kernel | omega)).trans ((e_upn hw10 (Or.inl (by first | decide | omega))).trans ((e_upn hw4 (Or.inl (by first | decide | omega))).trans rfl)))⟩⟩
      · replace h20 : (1 : Int) = 0 := Decidable.of_not_not (show ¬ ((1 : Int) ≠ 0) from h20)
        exact absurd h20 (by decide)
    · show e_Ok 20 elay ecode eI (d + 1) 378 (77, [(4, (0, z12)), (3, (0, z6)), (0, (1, 275)), (1, (0, o)), (2, (0, x))], [(0, 0)], w10) _
      refine e_Ok.if1 rfl (fun h27 => ?_) (fun h27 => ?_)
      · replace h27 : (0 : Int) ≠ 0 := h27
        exact absurd h27 (by decide)
      · replace h27 : (0 : Int) = 0 := Decidable.of_not_not (show ¬ ((0 : Int) ≠ 0) from h27)
        refine e_Ok.run (t' := (81, [(4, (0, z12)), (3, (0, z6)), (0, (1, 275)), (1, (0, o)), (2, (0, x))], [(0, 2)], w10)) 1 rfl ?_
        refine e_Ok.rets rfl rfl ?_
        have e28 : w10 276 5 = w 276 5 := ((e_upn hw10 (Or.inl (by first | decide | omega))).trans ((e_upn hw4 (Or.inl (by first | decide | omega))).trans rfl))
        have ew8 : w10 276 (1260 * t + 424) = w 276 (1260 * t + 424) := ((e_upn hw10 (Or.inl (by first | decide | omega))).trans ((e_upn hw4 (Or.inl (by first | decide | omega))).trans rfl))
        have ew9 : w10 276 (1260 * t + 425) = w 276 (1260 * t + 425) := ((e_upn hw10 (Or.inl (by first | decide | omega))).trans ((e_upn hw4 (Or.inl (by first | decide | omega))).trans rfl))
        have edp : w10 275 102 = D - 2 := (e_upe hw10)
        exact ⟨_, rfl, by first | decide | omega, f13, hT14, by first | decide | omega, (mOr.fr hOr (by first | decide | omega) (e_Has.orn hT) (e_Has.orw hT (by first | decide | omega)) (fun k q => by unfold orK at q; exact ((e_upn hw10 (Or.inl (by first | decide | omega))).trans ((e_upn hw4 (Or.inl (by first | decide | omega))).trans rfl)))), (fun b g1 g2 => Or.inr ((e_upn hw10 (Or.inl (by first | decide | omega))).trans ((e_upn hw4 (Or.inl (by first | decide | omega))).trans rfl))), by first | decide | omega, (fun e => by have := hW (by first | decide | omega); omega), Or.inl ⟨((e_upn hw10 (Or.inr (by first | decide | omega))).trans ((e_upn hw4 (Or.inr (by first | decide | omega))).trans rfl)), ((e_upn hw10 (Or.inl (by first | decide | omega))).trans ((e_upn hw4 (Or.inl (by first | decide | omega))).trans rfl))⟩⟩
  · refine e_Ok.sw (tg := 91) rfl (by rw [h1]; rfl) ?_
    have hD : D = 1 := by first | decide | omega
    refine e_Ok.run (t' := (93, [(0, (1, 275)), (1, (0, o)), (2, (0, x))], [(1, 275), (1, 275)], w)) 2 rfl ?_
    refine e_Ok.callV rfl (by first | exact Nat.le_of_succ_le_succ (Nat.le_trans (by decide) hd) | omega) rfl rfl rfl rfl (c_364 hT (e := D) (u := D - 1) h102 (by first | decide | omega) (by first | decide | omega) (by have q : w 345 (D - 1) = w 345 (D - 1) := rfl; have q2 := (hst (D - 1) (by first | decide | omega) (by first | decide | omega)); omega)) (fun r29 w30 h31 => ?_)
    obtain ⟨rfl, hw30⟩ := h31
    generalize hz32 : w 345 (D - 1) = z32
    have z32r : z32 = w 345 (D - 1) := Eq.trans hz32.symm rfl
    have z32b : -2147483648 ≤ z32 ∧ z32 ≤ 2147483647 := by rw [← hz32]; exact (by have q : w 345 (D - 1) = w 345 (D - 1) := rfl; have q2 := (hst (D - 1) (by first | decide | omega) (by first | decide | omega)); omega)
    have f33 : e_fr (mOt t) w w30 := e_fr.up (e_fr.refl w) hw30 (by unfold mOt mGr; first | decide +kernel | omega)
    have hT34 : e_Has mTy w30 := e_Has.ups hT hw30 rfl
    show e_Ok 20 elay ecode eI (d + 1) 378 (96, [(0, (1, 275)), (1, (0, o)), (2, (0, x))], [(0, z32), (1, 275)], w30) _
    refine e_Ok.callV rfl (by first | exact Nat.le_of_succ_le_succ (Nat.le_trans (by decide) hd) | omega) rfl rfl rfl rfl (c_379 (by first | exact Nat.le_of_succ_le_succ (Nat.le_trans (by decide) hd) | omega) hT34 (by first | decide | omega) ((e_upn hw30 (Or.inr (by first | decide | omega))).trans h96) ((e_upn hw30 (Or.inr (by first | decide | omega))).trans h97) (by first | decide | omega)) (fun r35 w36 h37 => ?_)
    obtain ⟨z38, rfl, q40, q40T, q40k⟩ := h37
    have f41 : e_fr (mOt t) w w36 := e_fr.trans f33 (e_fr.mono q40 (fun c k q => by unfold mTk at q; unfold mOt mGr; omega))
    have z38b : 0 ≤ z38 ∧ z38 ≤ 9 := by first | decide | omega
    show e_Ok 20 elay ecode eI (d + 1) 378 (99, [(0, (1, 275)), (1, (0, o)), (2, (0, x))], [(0, z38)], w36) _
    refine e_Ok.rets rfl rfl ?_
    have e42 : w36 276 5 = w 276 5 := ((q40 276 5 (by unfold mTk; first | decide +kernel | omega)).trans ((e_upn hw30 (Or.inl (by first | decide | omega))).trans rfl))
    have ew8 : w36 276 (1260 * t + 424) = w 276 (1260 * t + 424) := ((q40 276 (1260 * t + 424) (by unfold mTk; first | decide +kernel | omega)).trans ((e_upn hw30 (Or.inl (by first | decide | omega))).trans rfl))
    have ew9 : w36 276 (1260 * t + 425) = w 276 (1260 * t + 425) := ((q40 276 (1260 * t + 425) (by unfold mTk; first | decide +kernel | omega)).trans ((e_upn hw30 (Or.inl (by first | decide | omega))).trans rfl))
    have edp : w36 275 102 = D - 1 := ((q40 275 102 (by unfold mTk; first | decide +kernel | omega)).trans (e_upe hw30))
    exact ⟨_, rfl, by first | decide | omega, f41, q40T, by first | decide | omega, (mOr.fr hOr (by first | decide | omega) (e_Has.orn hT) (e_Has.orw hT (by first | decide | omega)) (fun k q => by unfold orK at q; exact ((q40 276 k (by unfold mTk; first | decide +kernel | omega)).trans ((e_upn hw30 (Or.inl (by first | decide | omega))).trans rfl)))), (fun b g1 g2 => Or.inr ((q40 276 (36 * b + 20) (by unfold mTk; first | decide +kernel | omega)).trans ((e_upn hw30 (Or.inl (by first | decide | omega))).trans rfl))), by first | decide | omega, (fun e => by have := hW (by first | decide | omega); omega), q40k.elim (fun h => Or.inl ⟨h.2.1.trans ((e_upn hw30 (Or.inr (by first | decide | omega))).trans rfl), h.2.2.1.trans ((e_upn hw30 (Or.inl (by first | decide | omega))).trans rfl)⟩) (fun h => h.elim (fun h => Or.inl ⟨h.2.1.trans ((e_upn hw30 (Or.inr (by first | decide | omega))).trans rfl), h.2.2.trans ((e_upn hw30 (Or.inl (by first | decide | omega))).trans rfl)⟩) (fun h => Or.inr ⟨h.1, h.2.1, h.2.2⟩))⟩
  · refine e_Ok.sw (tg := 100) rfl (by rw [h1]; rfl) ?_
    have hD : D = 1 := by first | decide | omega
    refine e_Ok.run (t' := (101, [(0, (1, 275)), (1, (0, o)), (2, (0, x))], [(1, 275)], w)) 1 rfl ?_
    refine e_Ok.callV rfl (by first | exact Nat.le_of_succ_le_succ (Nat.le_trans (by decide) hd) | omega) rfl rfl rfl rfl (c_364 hT (e := D) (u := D - 1) h102 (by first | decide | omega) (by first | decide | omega) (by have q : w 345 (D - 1) = w 345 (D - 1) := rfl; have q2 := (hst (D - 1) (by first | decide | omega) (by first | decide | omega)); omega)) (fun r43 w44 h45 => ?_)
    obtain ⟨rfl, hw44⟩ := h45
    generalize hz46 : w 345 (D - 1) = z46
    have z46r : z46 = w 345 (D - 1) := Eq.trans hz46.symm rfl
    have z46b : -2147483648 ≤ z46 ∧ z46 ≤ 2147483647 := by rw [← hz46]; exact (by have q : w 345 (D - 1) = w 345 (D - 1) := rfl; have q2 := (hst (D - 1) (by first | decide | omega) (by first | decide | omega)); omega)
    have f47 : e_fr (mOt t) w w44 := e_fr.up (e_fr.refl w) hw44 (by unfold mOt mGr; first | decide +kernel | omega)
    have hT48 : e_Has mTy w44 := e_Has.ups hT hw44 rfl
    show e_Ok 20 elay ecode eI (d + 1) 378 (104, [(0, (1, 275)), (1, (0, o)), (2, (0, x))], [(0, z46)], w44) _
    refine e_Ok.run (t' := (113, [(5, (0, z46)), (0, (1, 275)), (1, (0, o)), (2, (0, x))], [(4, 7), (4, 0), (4, z46)], w44)) 5 rfl ?_
    refine e_Ok.callS rfl (by first | exact Nat.le_of_succ_le_succ (Nat.le_trans (by decide) hd) | omega) rfl rfl (c_266) (fun r49 w50 h51 => ?_)
    obtain ⟨z52, rfl, rfl, q53⟩ := h51
    obtain ⟨rfl, q53⟩ | ⟨rfl, q53⟩ := q53
    · show e_Ok 20 elay ecode eI (d + 1) 378 (116, [(5, (0, z46)), (0, (1, 275)), (1, (0, o)), (2, (0, x))], [(0, 1)], w44) _
      refine e_Ok.if1 rfl (fun h54 => ?_) (fun h54 => ?_)
      · replace h54 : (1 : Int) = 0 := h54
        exact absurd h54 (by decide)
      · replace h54 : (1 : Int) ≠ 0 := h54
        refine e_Ok.run (t' := (120, [(5, (0, z46)), (0, (1, 275)), (1, (0, o)), (2, (0, x))], [(1, 275)], w44)) 1 rfl ?_
        refine e_Ok.getr (z := 276) rfl rfl rfl rfl ((e_upn hw44 (Or.inr (by first | decide | omega))).trans (e_Has.eq hT rfl)) (by first | decide | omega) ?_
        refine e_Ok.run (t' := (128, [(5, (0, z46)), (0, (1, 275)), (1, (0, o)), (2, (0, x))], [(0, z46), (0, 20868), (1, 276)], w44)) 2 rfl ?_
        refine e_Ok.add (z := z46 + 20868) rfl (by first | with_reducible rfl | decide | omega) (by first | decide | omega) ?_
        have h55 := (e_Has.get hT (c := 276) (k := z46 + 20868) (lo := (-1)) (hi := 15) (nR_LOCK (l := z46) (by first | decide | omega)) (by decide))
        refine e_Ok.ald (z := w 276 (z46 + 20868)) rfl rfl rfl (by first | decide | omega) ((e_upn hw44 (Or.inl (by first | decide | omega))).trans rfl) (by first | exact e_rg h55 (by decide) | omega) ?_
        refine e_Ok.run (t' := (131, [(5, (0, z46)), (0, (1, 275)), (1, (0, o)), (2, (0, x))], [(1, 275), (0, w 276 (z46 + 20868))], w44)) 1 rfl ?_
        refine e_Ok.getf (z := t) rfl rfl rfl rfl ((e_upn hw44 (Or.inr (by first | decide | omega))).trans h96) (by first | decide | omega) ?_
        refine e_Ok.if2 rfl (fun h56 => ?_) (fun h56 => ?_)
        · replace h56 : (w 276 (z46 + 20868) : Int) = t := h56
          refine e_Ok.run (t' := (143, [(5, (0, z46)), (0, (1, 275)), (1, (0, o)), (2, (0, x))], [(0, z46), (1, 275)], w44)) 2 rfl ?_
          refine e_Ok.callV rfl (by first | exact Nat.le_of_succ_le_succ (Nat.le_trans (by decide) hd) | omega) rfl rfl rfl rfl (c_360 (by first | exact Nat.le_of_succ_le_succ (Nat.le_trans (by decide) hd) | omega) hT48 (by first | decide | omega)) (fun r57 w58 h59 => ?_)
          obtain ⟨rfl, q60, q60T⟩ := h59
          have f61 : e_fr (mOt t) w w58 := e_fr.trans f47 (e_fr.mono q60 (fun c k q => by unfold mLk at q; unfold mOt mGr; omega))
          show e_Ok 20 elay ecode eI (d + 1) 378 (146, [(5, (0, z46)), (0, (1, 275)), (1, (0, o)), (2, (0, x))], [], w58) _
          refine e_Ok.run (t' := (147, [(5, (0, z46)), (0, (1, 275)), (1, (0, o)), (2, (0, x))], [(0, 0)], w58)) 1 rfl ?_
          refine e_Ok.rets rfl rfl ?_
          have e62 : w58 276 5 = w 276 5 := ((q60 276 5 (by unfold mLk; first | decide +kernel | omega)).trans ((e_upn hw44 (Or.inl (by first | decide | omega))).trans rfl))
          have ew8 : w58 276 (1260 * t + 424) = w 276 (1260 * t + 424) := ((q60 276 (1260 * t + 424) (by unfold mLk; first | decide +kernel | omega)).trans ((e_upn hw44 (Or.inl (by first | decide | omega))).trans rfl))
          have ew9 : w58 276 (1260 * t + 425) = w 276 (1260 * t + 425) := ((q60 276 (1260 * t + 425) (by unfold mLk; first | decide +kernel | omega)).trans ((e_upn hw44 (Or.inl (by first | decide | omega))).trans rfl))
          have edp : w58 275 102 = D - 1 := ((q60 275 102 (by unfold mLk; first | decide +kernel | omega)).trans (e_upe hw44))
          exact ⟨_, rfl, by first | decide | omega, f61, q60T, by first | decide | omega, (mOr.fr hOr (by first | decide | omega) (e_Has.orn hT) (e_Has.orw hT (by first | decide | omega)) (fun k q => by unfold orK at q; exact ((q60 276 k (by unfold mLk; first | decide +kernel | omega)).trans ((e_upn hw44 (Or.inl (by first | decide | omega))).trans rfl)))), (fun b g1 g2 => Or.inr ((q60 276 (36 * b + 20) (by unfold mLk; first | decide +kernel | omega)).trans ((e_upn hw44 (Or.inl (by first | decide | omega))).trans rfl))), by first | decide | omega, (fun e => by have := hW (by first | decide | omega); omega), Or.inl ⟨((q60 275 100 (by unfold mLk; first | decide +kernel | omega)).trans ((e_upn hw44 (Or.inr (by first | decide | omega))).trans rfl)), ((q60 276 (1260 * t + 416) (by unfold mLk; first | decide +kernel | omega)).trans ((e_upn hw44 (Or.inl (by first | decide | omega))).trans rfl))⟩⟩
        · replace h56 : (w 276 (z46 + 20868) : Int) ≠ t := h56
          refine e_Ok.run (t' := (139, [(5, (0, z46)), (0, (1, 275)), (1, (0, o)), (2, (0, x))], [(0, 9)], w44)) 1 rfl ?_
          refine e_Ok.rets rfl rfl ?_
          have e63 : w44 276 5 = w 276 5 := ((e_upn hw44 (Or.inl (by first | decide | omega))).trans rfl)
          have ew8 : w44 276 (1260 * t + 424) = w 276 (1260 * t + 424) := ((e_upn hw44 (Or.inl (by first | decide | omega))).trans rfl)
          have ew9 : w44 276 (1260 * t + 425) = w 276 (1260 * t + 425) := ((e_upn hw44 (Or.inl (by first | decide | omega))).trans rfl)
          have edp : w44 275 102 = D - 1 := (e_upe hw44)
          exact ⟨_, rfl, by first | decide | omega, f47, hT48, by first | decide | omega, (mOr.fr hOr (by first | decide | omega) (e_Has.orn hT) (e_Has.orw hT (by first | decide | omega)) (fun k q => by unfold orK at q; exact ((e_upn hw44 (Or.inl (by first | decide | omega))).trans rfl))), (fun b g1 g2 => Or.inr ((e_upn hw44 (Or.inl (by first | decide | omega))).trans rfl)), by first | decide | omega, (fun e => by have := hW (by first | decide | omega); omega), Or.inl ⟨((e_upn hw44 (Or.inr (by first | decide | omega))).trans rfl), ((e_upn hw44 (Or.inl (by first | decide | omega))).trans rfl)⟩⟩
    · show e_Ok 20 elay ecode eI (d + 1) 378 (116, [(5, (0, z46)), (0, (1, 275)), (1, (0, o)), (2, (0, x))], [(0, 0)], w44) _
      refine e_Ok.if1 rfl (fun h64 => ?_) (fun h64 => ?_)
      · replace h64 : (0 : Int) = 0 := h64
        refine e_Ok.run (t' := (139, [(5, (0, z46)), (0, (1, 275)), (1, (0, o)), (2, (0, x))], [(0, 9)], w44)) 1 rfl ?_
        refine e_Ok.rets rfl rfl ?_
        have e65 : w44 276 5 = w 276 5 := ((e_upn hw44 (Or.inl (by first | decide | omega))).trans rfl)
        have ew8 : w44 276 (1260 * t + 424) = w 276 (1260 * t + 424) := ((e_upn hw44 (Or.inl (by first | decide | omega))).trans rfl)
        have ew9 : w44 276 (1260 * t + 425) = w 276 (1260 * t + 425) := ((e_upn hw44 (Or.inl (by first | decide | omega))).trans rfl)
        have edp : w44 275 102 = D - 1 := (e_upe hw44)
        exact ⟨_, rfl, by first | decide | omega, f47, hT48, by first | decide | omega, (mOr.fr hOr (by first | decide | omega) (e_Has.orn hT) (e_Has.orw hT (by first | decide | omega)) (fun k q => by unfold orK at q; exact ((e_upn hw44 (Or.inl (by first | decide | omega))).trans rfl))), (fun b g1 g2 => Or.inr ((e_upn hw44 (Or.inl (by first | decide | omega))).trans rfl)), by first | decide | omega, (fun e => by have := hW (by first | decide | omega); omega), Or.inl ⟨((e_upn hw44 (Or.inr (by first | decide | omega))).trans rfl), ((e_upn hw44 (Or.inl (by first | decide | omega))).trans rfl)⟩⟩
      · replace h64 : (0 : Int) ≠ 0 := h64
        exact absurd h64 (by decide)
  · refine e_Ok.sw (tg := 251) rfl (by rw [h1]; rfl) ?_
    have hD : D = 0 := by first | decide | omega
    refine e_Ok.run (t' := (253, [(0, (1, 275)), (1, (0, o)), (2, (0, x))], [(1, 275), (1, 275)], w)) 2 rfl ?_
    refine e_Ok.getf (z := a) rfl rfl rfl rfl h98 (by first | decide | omega) ?_
    refine e_Ok.callV rfl (by first | exact Nat.le_of_succ_le_succ (Nat.le_trans (by decide) hd) | omega) rfl rfl rfl rfl (c_396 (by first | exact Nat.le_of_succ_le_succ (Nat.le_trans (by decide) hd) | omega) hT (by first | decide | omega) hOr (by first | decide | omega)) (fun r66 w67 h68 => ?_)
    obtain ⟨z69, rfl, q70z, q70, q70T, q70n, q70o, q70f⟩ := h68
    have f71 : e_fr (mOt t) w w67 := e_fr.trans (e_fr.refl w) (e_fr.mono q70 (fun c k q => by exact Or.inr (Or.inr (Or.inr (Or.inl q)))))
    show e_Ok 20 elay ecode eI (d + 1) 378 (259, [(0, (1, 275)), (1, (0, o)), (2, (0, x))], [(0, z69)], w67) _
    refine e_Ok.if1 rfl (fun h72 => ?_) (fun h72 => ?_)
    · replace h72 : (z69 : Int) = 0 := h72
      refine e_Ok.run (t' := (268, [(0, (1, 275)), (1, (0, o)), (2, (0, x))], [(0, 7)], w67)) 1 rfl ?_
      refine e_Ok.rets rfl rfl ?_
      have e73 : w67 276 5 = w67 276 5 := rfl
      have ew8 : w67 276 (1260 * t + 424) = w 276 (1260 * t + 424) := ((q70 276 (1260 * t + 424) (by unfold mGr; first | decide +kernel | omega)).trans rfl)
      have ew9 : w67 276 (1260 * t + 425) = w 276 (1260 * t + 425) := ((q70 276 (1260 * t + 425) (by unfold mGr; first | decide +kernel | omega)).trans rfl)
      have edp : w67 275 102 = D := ((q70 275 102 (by unfold mGr; first | decide +kernel | omega)).trans h102)
      exact ⟨_, rfl, by first | decide | omega, f71, q70T, by first | decide | omega, q70o, q70f, by first | decide | omega, (fun e => by have := hW (by first | decide | omega); omega), Or.inl ⟨((q70 275 100 (by unfold mGr; first | decide +kernel | omega)).trans rfl), ((q70 276 (1260 * t + 416) (by unfold mGr; first | decide +kernel | omega)).trans rfl)⟩⟩
    · replace h72 : (z69 : Int) ≠ 0 := h72
      refine e_Ok.run (t' := (268, [(0, (1, 275)), (1, (0, o)), (2, (0, x))], [(0, 0)], w67)) 2 rfl ?_
      refine e_Ok.rets rfl rfl ?_
      have e74 : w67 276 5 = w67 276 5 := rfl
      have ew8 : w67 276 (1260 * t + 424) = w 276 (1260 * t + 424) := ((q70 276 (1260 * t + 424) (by unfold mGr; first | decide +kernel | omega)).trans rfl)
      have ew9 : w67 276 (1260 * t + 425) = w 276 (1260 * t + 425) := ((q70 276 (1260 * t + 425) (by unfold mGr; first | decide +kernel | omega)).trans rfl)
      have edp : w67 275 102 = D := ((q70 275 102 (by unfold mGr; first | decide +kernel | omega)).trans h102)
      exact ⟨_, rfl, by first | decide | omega, f71, q70T, by first | decide | omega, q70o, q70f, by first | decide | omega, (fun e => by have := hW (by first | decide | omega); omega), Or.inl ⟨((q70 275 100 (by unfold mGr; first | decide +kernel | omega)).trans rfl), ((q70 276 (1260 * t + 416) (by unfold mGr; first | decide +kernel | omega)).trans rfl)⟩⟩
  · refine e_Ok.sw (tg := 269) rfl (by rw [h1]; rfl) ?_
    have hD : D = 0 := by first | decide | omega
    refine e_Ok.run (t' := (271, [(0, (1, 275)), (1, (0, o)), (2, (0, x))], [(1, 275), (1, 275)], w)) 2 rfl ?_
    refine e_Ok.getf (z := a) rfl rfl rfl rfl h98 (by first | decide | omega) ?_
    refine e_Ok.callV rfl (by first | exact Nat.le_of_succ_le_succ (Nat.le_trans (by decide) hd) | omega) rfl rfl rfl rfl (c_397 (by first | exact Nat.le_of_succ_le_succ (Nat.le_trans (by decide) hd) | omega) hT (by first | decide | omega) hOr (by first | decide | omega)) (fun r75 w76 h77 => ?_)
    obtain ⟨z78, rfl, q79z, q79, q79T, q79n, q79o, q79f⟩ := h77
    have f80 : e_fr (mOt t) w w76 := e_fr.trans (e_fr.refl w) (e_fr.mono q79 (fun c k q => by exact Or.inr (Or.inr (Or.inr (Or.inl q)))))
    show e_Ok 20 elay ecode eI (d + 1) 378 (277, [(0, (1, 275)), (1, (0, o)), (2, (0, x))], [(0, z78)], w76) _
    refine e_Ok.if1 rfl (fun h81 => ?_) (fun h81 => ?_)
    · replace h81 : (z78 : Int) = 0 := h81
      refine e_Ok.run (t' := (286, [(0, (1, 275)), (1, (0, o)), (2, (0, x))], [(0, 7)], w76)) 1 rfl ?_
      refine e_Ok.rets rfl rfl ?_
      have e82 : w76 276 5 = w76 276 5 := rfl
      have ew8 : w76 276 (1260 * t + 424) = w 276 (1260 * t + 424) := ((q79 276 (1260 * t + 424) (by unfold mGr; first | decide +kernel | omega)).trans rfl)
      have ew9 : w76 276 (1260 * t + 425) = w 276 (1260 * t + 425) := ((q79 276 (1260 * t + 425) (by unfold mGr; first | decide +kernel | omega)).trans rfl)
      have edp : w76 275 102 = D := ((q79 275 102 (by unfold mGr; first | decide +kernel | omega)).trans h102)
      exact ⟨_, rfl, by first | decide | omega, f80, q79T, by first | decide | omega, q79o, q79f, by first | decide | omega, (fun e => by have := hW (by first | decide | omega); omega), Or.inl ⟨((q79 275 100 (by unfold mGr; first | decide +kernel | omega)).trans rfl), ((q79 276 (1260 * t + 416) (by unfold mGr; first | decide +kernel | omega)).trans rfl)⟩⟩
    · replace h81 : (z78 : Int) ≠ 0 := h81
      refine e_Ok.run (t' := (286, [(0, (1, 275)), (1, (0, o)), (2, (0, x))], [(0, 0)], w76)) 2 rfl ?_
      refine e_Ok.rets rfl rfl ?_
      have e83 : w76 276 5 = w76 276 5 := rfl
      have ew8 : w76 276 (1260 * t + 424) = w 276 (1260 * t + 424) := ((q79 276 (1260 * t + 424) (by unfold mGr; first | decide +kernel | omega)).trans rfl)
      have ew9 : w76 276 (1260 * t + 425) = w 276 (1260 * t + 425) := ((q79 276 (1260 * t + 425) (by unfold mGr; first | decide +kernel | omega)).trans rfl)
      have edp : w76 275 102 = D := ((q79 275 102 (by unfold mGr; first | decide +kernel | omega)).trans h102)
      exact ⟨_, rfl, by first | decide | omega, f80, q79T, by first | decide | omega, q79o, q79f, by first | decide | omega, (fun e => by have := hW (by first | decide | omega); omega), Or.inl ⟨((q79 275 100 (by unfold mGr; first | decide +kernel | omega)).trans rfl), ((q79 276 (1260 * t + 416) (by unfold mGr; first | decide +kernel | omega)).trans rfl)⟩⟩
  · refine e_Ok.sw (tg := 167) rfl (by rw [h1]; rfl) ?_
    have hD : D = 1 := by first | decide | omega
    refine e_Ok.run (t' := (168, [(0, (1, 275)), (1, (0, o)), (2, (0, x))], [(1, 275)], w)) 1 rfl ?_
    refine e_Ok.callV rfl (by first | exact Nat.le_of_succ_le_succ (Nat.le_trans (by decide) hd) | omega) rfl rfl rfl rfl (c_364 hT (e := D) (u := D - 1) h102 (by first | decide | omega) (by first | decide | omega) (by have q : w 345 (D - 1) = w 345 (D - 1) := rfl; have q2 := (hst (D - 1) (by first | decide | omega) (by first | decide | omega)); omega)) (fun r84 w85 h86 => ?_)
    obtain ⟨rfl, hw85⟩ := h86
    generalize hz87 : w 345 (D - 1) = z87
    have z87r : z87 = w 345 (D - 1) := Eq.trans hz87.symm rfl
    have z87b : -2147483648 ≤ z87 ∧ z87 ≤ 2147483647 := by rw [← hz87]; exact (by have q : w 345 (D - 1) = w 345 (D - 1) := rfl; have q2 := (hst (D - 1) (by first | decide | omega) (by first | decide | omega)); omega)
    have f88 : e_fr (mOt t) w w85 := e_fr.up (e_fr.refl w) hw85 (by unfold mOt mGr; first | decide +kernel | omega)
    have hT89 : e_Has mTy w85 := e_Has.ups hT hw85 rfl
    show e_Ok 20 elay ecode eI (d + 1) 378 (171, [(0, (1, 275)), (1, (0, o)), (2, (0, x))], [(0, z87)], w85) _
    refine e_Ok.run (t' := (182, [(6, (0, z87)), (0, (1, 275)), (1, (0, o)), (2, (0, x))], [(4, 63), (4, (-1)), (4, z87)], w85)) 5 rfl ?_
    refine e_Ok.callS rfl (by first | exact Nat.le_of_succ_le_succ (Nat.le_trans (by decide) hd) | omega) rfl rfl (c_266) (fun r90 w91 h92 => ?_)
    obtain ⟨z93, rfl, rfl, q94⟩ := h92
    obtain ⟨rfl, q94⟩ | ⟨rfl, q94⟩ := q94
    · show e_Ok 20 elay ecode eI (d + 1) 378 (185, [(6, (0, z87)), (0, (1, 275)), (1, (0, o)), (2, (0, x))], [(0, 1)], w85) _
      refine e_Ok.if1 rfl (fun h95 => ?_) (fun h95 => ?_)
      · replace h95 : (1 : Int) ≠ 0 := h95
        have hxx := hx (by first | decide | omega)
        refine e_Ok.run (t' := (191, [(6, (0, z87)), (0, (1, 275)), (1, (0, o)), (2, (0, x))], [(1, 275)], w85)) 1 rfl ?_
        refine e_Ok.getr (z := 276) rfl rfl rfl rfl ((e_upn hw85 (Or.inr (by first | decide | omega))).trans (e_Has.eq hT rfl)) (by first | decide | omega) ?_
        refine e_Ok.run (t' := (195, [(6, (0, z87)), (0, (1, 275)), (1, (0, o)), (2, (0, x))], [(1, 275), (1, 276)], w85)) 1 rfl ?_
        refine e_Ok.getf (z := 1260 * t + 416) rfl rfl rfl rfl ((e_upn hw85 (Or.inr (by first | decide | omega))).trans h97) (by first | decide | omega) ?_
        refine e_Ok.run (t' := (200, [(6, (0, z87)), (0, (1, 275)), (1, (0, o)), (2, (0, x))], [(0, 8), (0, 1260 * t + 416), (1, 276)], w85)) 1 rfl ?_
        refine e_Ok.add (z := 1260 * t + 424) rfl (by first | with_reducible rfl | decide | omega) (by first | decide | omega) ?_
        refine e_Ok.run (t' := (203, [(6, (0, z87)), (0, (1, 275)), (1, (0, o)), (2, (0, x))], [(0, z87), (0, 1260 * t + 424), (1, 276)], w85)) 1 rfl ?_
        refine e_Ok.ast rfl rfl rfl rfl (by first | decide | omega) ?_
        generalize hw101 : e_up w85 276 (1260 * t + 424) z87 = w101
        have f103 : e_fr (mOt t) w w101 := e_fr.up f88 hw101 (by unfold mOt mGr; first | decide +kernel | omega)
        have hT104 : e_Has mTy w101 := e_Has.upr hT89 hw101 (nR_WATCHED (t := t) (by first | decide | omega)) (by first | decide | omega)
        refine e_Ok.run (t' := (205, [(6, (0, z87)), (0, (1, 275)), (1, (0, o)), (2, (0, x))], [(1, 275)], w101)) 1 rfl ?_
        refine e_Ok.getr (z := 276) rfl rfl rfl rfl ((e_upn hw101 (Or.inl (by first | decide | omega))).trans ((e_upn hw85 (Or.inr (by first | decide | omega))).trans (e_Has.eq hT rfl))) (by first | decide | omega) ?_
        refine e_Ok.run (t' := (209, [(6, (0, z87)), (0, (1, 275)), (1, (0, o)), (2, (0, x))], [(1, 275), (1, 276)], w101)) 1 rfl ?_
        refine e_Ok.getf (z := 1260 * t + 416) rfl rfl rfl rfl ((e_upn hw101 (Or.inl (by first | decide | omega))).trans ((e_upn hw85 (Or.inr (by first | decide | omega))).trans h97)) (by first | decide | omega) ?_
        refine e_Ok.run (t' := (214, [(6, (0, z87)), (0, (1, 275)), (1, (0, o)), (2, (0, x))], [(0, 9), (0, 1260 * t + 416), (1, 276)], w101)) 1 rfl ?_
        refine e_Ok.add (z := 1260 * t + 425) rfl (by first | with_reducible rfl | decide | omega) (by first | decide | omega) ?_
        refine e_Ok.run (t' := (216, [(6, (0, z87)), (0, (1, 275)), (1, (0, o)), (2, (0, x))], [(0, x), (0, 1260 * t + 425), (1, 276)], w101)) 1 rfl ?_
        refine e_Ok.ast rfl rfl rfl rfl (by first | decide | omega) ?_
        generalize hw105 : e_up w101 276 (1260 * t + 425) x = w105
        have f106 : e_fr (mOt t) w w105 := e_fr.up f103 hw105 (by unfold mOt mGr; first | decide +kernel | omega)
        have hT107 : e_Has mTy w105 := e_Has.upr hT104 hw105 (nR_WATCHER (t := t) (by first | decide | omega)) (by first | decide | omega)
        refine e_Ok.run (t' := (218, [(6, (0, z87)), (0, (1, 275)), (1, (0, o)), (2, (0, x))], [(1, 275)], w105)) 1 rfl ?_
        refine e_Ok.getr (z := 276) rfl rfl rfl rfl ((e_upn hw105 (Or.inl (by first | decide | omega))).trans ((e_upn hw101 (Or.inl (by first | decide | omega))).trans ((e_upn hw85 (Or.inr (by first | decide | omega))).trans (e_Has.eq hT rfl)))) (by first | decide | omega) ?_
        refine e_Ok.run (t' := (222, [(6, (0, z87)), (0, (1, 275)), (1, (0, o)), (2, (0, x))], [(1, 275), (1, 276)], w105)) 1 rfl ?_
        refine e_Ok.getf (z := 1260 * t + 416) rfl rfl rfl rfl ((e_upn hw105 (Or.inl (by first | decide | omega))).trans ((e_upn hw101 (Or.inl (by first | decide | omega))).trans ((e_upn hw85 (Or.inr (by first | decide | omega))).trans h97))) (by first | decide | omega) ?_
        refine e_Ok.run (t' := (227, [(6, (0, z87)), (0, (1, 275)), (1, (0, o)), (2, (0, x))], [(0, 10), (0, 1260 * t + 416), (1, 276)], w105)) 1 rfl ?_
        refine e_Ok.add (z := 1260 * t + 426) rfl (by first | with_reducible rfl | decide | omega) (by first | decide | omega) ?_
        refine e_Ok.run (t' := (230, [(6, (0, z87)), (0, (1, 275)), (1, (0, o)), (2, (0, x))], [(0, z87), (0, 1260 * t + 426), (1, 276)], w105)) 1 rfl ?_
        refine e_Ok.if1 rfl (fun h108 => ?_) (fun h108 => ?_)
        · replace h108 : (z87 : Int) ≥ 0 := h108
          refine e_Ok.run (t' := (238, [(6, (0, z87)), (0, (1, 275)), (1, (0, o)), (2, (0, x))], [(1, 275), (0, 1260 * t + 426), (1, 276)], w105)) 1 rfl ?_
          refine e_Ok.getr (z := 276) rfl rfl rfl rfl ((e_upn hw105 (Or.inl (by first | decide | omega))).trans ((e_upn hw101 (Or.inl (by first | decide | omega))).trans ((e_upn hw85 (Or.inr (by first | decide | omega))).trans (e_Has.eq hT rfl)))) (by first | decide | omega) ?_
          refine e_Ok.run (t' := (246, [(6, (0, z87)), (0, (1, 275)), (1, (0, o)), (2, (0, x))], [(0, z87), (0, 352), (1, 276), (0, 1260 * t + 426), (1, 276)], w105)) 2 rfl ?_
          refine e_Ok.add (z := z87 + 352) rfl (by first | with_reducible rfl | decide | omega) (by first | decide | omega) ?_
          have h109 := (e_Has.get hT (c := 276) (k := z87 + 352) (lo := (-2147483648)) (hi := 2147483647) (nR_RISES (p := z87) (by first | decide | omega)) (by decide))
          refine e_Ok.ald (z := w 276 (z87 + 352)) rfl rfl rfl (by first | decide | omega) ((e_upn hw105 (Or.inr (by first | decide | omega))).trans ((e_upn hw101 (Or.inr (by first | decide | omega))).trans ((e_upn hw85 (Or.inl (by first | decide | omega))).trans rfl))) (by first | exact e_rg h109 (by decide) | omega) ?_
          refine e_Ok.ast rfl rfl rfl rfl (by first | decide | omega) ?_
          generalize hw110 : e_up w105 276 (1260 * t + 426) (w 276 (z87 + 352)) = w110
          have f111 : e_fr (mOt t) w w110 := e_fr.up f106 hw110 (by unfold mOt mGr; first | decide +kernel | omega)
          have hT112 : e_Has mTy w110 := e_Has.upr hT107 hw110 (nR_KEPT (t := t) (by first | decide | omega)) (by first | decide | omega)
          refine e_Ok.run (t' := (250, [(6, (0, z87)), (0, (1, 275)), (1, (0, o)), (2, (0, x))], [(0, 0)], w110)) 1 rfl ?_
          refine e_Ok.rets rfl rfl ?_
          have e113 : w110 276 5 = w 276 5 := ((e_upn hw110 (Or.inr (by first | decide | omega))).trans ((e_upn hw105 (Or.inr (by first | decide | omega))).trans ((e_upn hw101 (Or.inr (by first | decide | omega))).trans ((e_upn hw85 (Or.inl (by first | decide | omega))).trans rfl))))
          have ew8 : w110 276 (1260 * t + 424) = z87 := ((e_upn hw110 (Or.inr (by first | decide | omega))).trans ((e_upn hw105 (Or.inr (by first | decide | omega))).trans (e_upe hw101)))
          have ew9 : w110 276 (1260 * t + 425) = x := ((e_upn hw110 (Or.inr (by first | decide | omega))).trans (e_upe hw105))
          have edp : w110 275 102 = D - 1 := ((e_upn hw110 (Or.inl (by first | decide | omega))).trans ((e_upn hw105 (Or.inl (by first | decide | omega))).trans ((e_upn hw101 (Or.inl (by first | decide | omega))).trans (e_upe hw85))))
          exact ⟨_, rfl, by first | decide | omega, f111, hT112, by first | decide | omega, (mOr.fr hOr (by first | decide | omega) (e_Has.orn hT) (e_Has.orw hT (by first | decide | omega)) (fun k q => by unfold orK at q; exact ((e_upn hw110 (Or.inr (by first | decide | omega))).trans ((e_upn hw105 (Or.inr (by first | decide | omega))).trans ((e_upn hw101 (Or.inr (by first | decide | omega))).trans ((e_upn hw85 (Or.inl (by first | decide | omega))).trans rfl)))))), (fun b g1 g2 => Or.inr ((e_upn hw110 (Or.inr (by first | decide | omega))).trans ((e_upn hw105 (Or.inr (by first | decide | omega))).trans ((e_upn hw101 (Or.inr (by first | decide | omega))).trans ((e_upn hw85 (Or.inl (by first | decide | omega))).trans rfl))))), by first | decide | omega, (fun e => by have := hx (by first | decide | omega); omega), Or.inl ⟨((e_upn hw110 (Or.inl (by first | decide | omega))).trans ((e_upn hw105 (Or.inl (by first | decide | omega))).trans ((e_upn hw101 (Or.inl (by first | decide | omega))).trans ((e_upn hw85 (Or.inr (by first | decide | omega))).trans rfl)))), ((e_upn hw110 (Or.inr (by first | decide | omega))).trans ((e_upn hw105 (Or.inr (by first | decide | omega))).trans ((e_upn hw101 (Or.inr (by first | decide | omega))).trans ((e_upn hw85 (Or.inl (by first | decide | omega))).trans rfl))))⟩⟩
        · replace h108 : (z87 : Int) < 0 := Int.not_le.mp (show ¬ ((z87 : Int) ≥ 0) from h108)
          refine e_Ok.run (t' := (248, [(6, (0, z87)), (0, (1, 275)), (1, (0, o)), (2, (0, x))], [(0, 0), (0, 1260 * t + 426), (1, 276)], w105)) 2 rfl ?_
          refine e_Ok.ast rfl rfl rfl rfl (by first | decide | omega) ?_
          generalize hw114 : e_up w105 276 (1260 * t + 426) 0 = w114
          have f115 : e_fr (mOt t) w w114 := e_fr.up f106 hw114 (by unfold mOt mGr; first | decide +kernel | omega)
          have hT116 : e_Has mTy w114 := e_Has.upr hT107 hw114 (nR_KEPT (t := t) (by first | decide | omega)) (by first | decide | omega)
          refine e_Ok.run (t' := (250, [(6, (0, z87)), (0, (1, 275)), (1, (0, o)), (2, (0, x))], [(0, 0)], w114)) 1 rfl ?_
          refine e_Ok.rets rfl rfl ?_
          have e117 : w114 276 5 = w 276 5 := ((e_upn hw114 (Or.inr (by first | decide | omega))).trans ((e_upn hw105 (Or.inr (by first | decide | omega))).trans ((e_upn hw101 (Or.inr (by first | decide | omega))).trans ((e_upn hw85 (Or.inl (by first | decide | omega))).trans rfl))))
          have ew8 : w114 276 (1260 * t + 424) = z87 := ((e_upn hw114 (Or.inr (by first | decide | omega))).trans ((e_upn hw105 (Or.inr (by first | decide | omega))).trans (e_upe hw101)))
          have ew9 : w114 276 (1260 * t + 425) = x := ((e_upn hw114 (Or.inr (by first | decide | omega))).trans (e_upe hw105))
          have edp : w114 275 102 = D - 1 := ((e_upn hw114 (Or.inl (by first | decide | omega))).trans ((e_upn hw105 (Or.inl (by first | decide | omega))).trans ((e_upn hw101 (Or.inl (by first | decide | omega))).trans (e_upe hw85))))
          exact ⟨_, rfl, by first | decide | omega, f115, hT116, by first | decide | omega, (mOr.fr hOr (by first | decide | omega) (e_Has.orn hT) (e_Has.orw hT (by first | decide | omega)) (fun k q => by unfold orK at q; exact ((e_upn hw114 (Or.inr (by first | decide | omega))).trans ((e_upn hw105 (Or.inr (by first | decide | omega))).trans ((e_upn hw101 (Or.inr (by first | decide | omega))).trans ((e_upn hw85 (Or.inl (by first | decide | omega))).trans rfl)))))), (fun b g1 g2 => Or.inr ((e_upn hw114 (Or.inr (by first | decide | omega))).trans ((e_upn hw105 (Or.inr (by first | decide | omega))).trans ((e_upn hw101 (Or.inr (by first | decide | omega))).trans ((e_upn hw85 (Or.inl (by first | decide | omega))).trans rfl))))), by first | decide | omega, (fun e => by have := hx (by first | decide | omega); omega), Or.inl ⟨((e_upn hw114 (Or.inl (by first | decide | omega))).trans ((e_upn hw105 (Or.inl (by first | decide | omega))).trans ((e_upn hw101 (Or.inl (by first | decide | omega))).trans ((e_upn hw85 (Or.inr (by first | decide | omega))).trans rfl)))), ((e_upn hw114 (Or.inr (by first | decide | omega))).trans ((e_upn hw105 (Or.inr (by first | decide | omega))).trans ((e_upn hw101 (Or.inr (by first | decide | omega))).trans ((e_upn hw85 (Or.inl (by first | decide | omega))).trans rfl))))⟩⟩
      · replace h95 : (1 : Int) = 0 := Decidable.of_not_not (show ¬ ((1 : Int) ≠ 0) from h95)
        exact absurd h95 (by decide)
    · show e_Ok 20 elay ecode eI (d + 1) 378 (185, [(6, (0, z87)), (0, (1, 275)), (1, (0, o)), (2, (0, x))], [(0, 0)], w85) _
      refine e_Ok.if1 rfl (fun h118 => ?_) (fun h118 => ?_)
      · replace h118 : (0 : Int) ≠ 0 := h118
        exact absurd h118 (by decide)
      · replace h118 : (0 : Int) = 0 := Decidable.of_not_not (show ¬ ((0 : Int) ≠ 0) from h118)
        refine e_Ok.run (t' := (189, [(6, (0, z87)), (0, (1, 275)), (1, (0, o)), (2, (0, x))], [(0, 2)], w85)) 1 rfl ?_
        refine e_Ok.rets rfl rfl ?_
        have e119 : w85 276 5 = w 276 5 := ((e_upn hw85 (Or.inl (by first | decide | omega))).trans rfl)
        have ew8 : w85 276 (1260 * t + 424) = w 276 (1260 * t + 424) := ((e_upn hw85 (Or.inl (by first | decide | omega))).trans rfl)
        have ew9 : w85 276 (1260 * t + 425) = w 276 (1260 * t + 425) := ((e_upn hw85 (Or.inl (by first | decide | omega))).trans rfl)
        have edp : w85 275 102 = D - 1 := (e_upe hw85)
        exact ⟨_, rfl, by first | decide | omega, f88, hT89, by first | decide | omega, (mOr.fr hOr (by first | decide | omega) (e_Has.orn hT) (e_Has.orw hT (by first | decide | omega)) (fun k q => by unfold orK at q; exact ((e_upn hw85 (Or.inl (by first | decide | omega))).trans rfl))), (fun b g1 g2 => Or.inr ((e_upn hw85 (Or.inl (by first | decide | omega))).trans rfl)), by first | decide | omega, (fun e => by have := hW (by first | decide | omega); omega), Or.inl ⟨((e_upn hw85 (Or.inr (by first | decide | omega))).trans rfl), ((e_upn hw85 (Or.inl (by first | decide | omega))).trans rfl)⟩⟩
end
