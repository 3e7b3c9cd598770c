noncomputable section
/-! the class: plan -/
def kPq (a m y : Int) (c k : Int) : Prop := (c = 262 ∧ 0 ≤ k ∧ k ≤ 3) ∨ (263 ≤ c ∧ c ≤ 268) ∨ ((c = 269 ∧ 1000 * y ≤ k ∧ k < 1000 * y + 1000) ∨ ((c = 270 ∨ c = 271) ∧ k = y)) ∨ (17 * a + 97 ≤ c ∧ c < 17 * a + m + 97 ∧ k = 7) ∨ ((c = 17 * a + 88 ∨ c = 17 * a + 89) ∧ 1 ≤ k ∧ k ≤ m + 1) ∨ (c = 250 ∧ 13 ≤ k ∧ k ≤ 16)
def kNp (c k : Int) : Prop := kNv c k ∨ (262 ≤ c ∧ c ≤ 271)
section De
variable {w w' : eW} {OP OD CL : Int → Int → Int} {S : Int → eW}
theorem pq_np {a m y c k : Int} (ga : 0 ≤ a ∧ a ≤ 3) (hm : m ≤ 6) (h : kPq a m y c k) : kNw c k ∨ (262 ≤ c ∧ c ≤ 271) := by
  unfold kPq at h
  rcases h with h | h | h | h | h | h
  · omega
  · omega
  · omega
  · exact Or.inl (Or.inr (Or.inr (Or.inr (Or.inr (Or.inr (Or.inr (Or.inr (Or.inr (Or.inr (Or.inr (Or.inr (Or.inr (Or.inr (Or.inr (Or.inr (Or.inr ((by omega))))))))))))))))))
  · exact Or.inl (Or.inr (Or.inr (Or.inr (Or.inr (Or.inr (Or.inr (Or.inr (Or.inr (Or.inr (Or.inr (Or.inr (Or.inr (Or.inr (Or.inr (Or.inl (by omega))))))))))))))))
  · exact Or.inl (Or.inr (Or.inr (Or.inr (Or.inr (Or.inr (Or.inr (Or.inr (Or.inr (Or.inr (Or.inr (Or.inl (by omega))))))))))))
theorem aP.hi {a : Int} (ga : 0 ≤ a ∧ a ≤ 3) (fr : e_fr (fun c _ => 262 ≤ c ∧ c ≤ 271) w w') (hT : e_Has kTy w) (hT' : e_Has kTy w') (h : aP w a) : aP w' a := by
  have hjn := kn_joints hT ga
  refine h.eq (fr _ _ (by omega)) (fun c k q => ?_) (fun k g => ⟨fr _ _ (by omega), fr _ _ (by omega)⟩)
  rcases q with q | ⟨j, hj, rfl, rfl⟩
  · exact Kq.of (fr.mono (fun c k g => by unfold kNh; omega)) hT hT' c k q
  · exact fr _ _ (by omega)
/-- a plan leaves the cell as it was -/
theorem kB.pl {a m y : Int} (q : kB w OP OD CL S) (hT : e_Has kTy w) (hT' : e_Has kTy w') (ga : 0 ≤ a ∧ a ≤ 3) (hm : w (17 * a + 86) 8 = m) (hy : w 262 0 = y) (fr : e_fr (kPq a m y) w w') (ho : ∀ c k, e_out elay c k → w' c k = w c k) (hv : ∀ j, 0 ≤ j → j ≤ 5 → w' (17 * a + j + 97) 7 = w (17 * a + j + 97) 7) (hA : ∀ b, 0 ≤ b → b ≤ 3 → aP w' b) (hp : w 262 0 ≤ w' 262 0 ∧ w' 262 0 ≤ 60) : kB w' OP OD CL S := by
  have hjn := kn_joints hT ga
  have fN : e_fr kNh w w' := fr.mono (fun c k g => by rcases pq_np ga (by omega) g with g2 | g2; exact Or.inl g2; (unfold kNh; omega))
  have e8 : w' (17 * a + 86) 8 = w (17 * a + 86) 8 := fr _ _ (by unfold kPq; omega)
  have eP : PLC w' a = PLC w a := PLC_eq e8 (fun c k g => by
    rcases g with g | ⟨j, hj, rfl, rfl⟩
    · exact Kq.of fN hT hT' c k g
    · exact hv j hj.1 (by omega))
  have hx : e_rx (S (w 0 12)) w' := fun c k g1 g2 => by
    have e0 := q.2.2.2.1 c k g1 g2
    rw [← e0]
    by_cases h : kPq a m y c k
    · have hX : (262 ≤ c ∧ c ≤ 271) → (kTy c k).1 ≠ (kTy c k).2 → False := fun g3 g4 => g1 (Or.inl ⟨by omega, g4⟩)
      unfold kPq at h
      rcases h with ⟨rfl, h⟩ | h | h | h | ⟨h1, h2⟩ | h
      · exfalso
        obtain rfl | rfl | rfl | rfl : k = 0 ∨ k = 1 ∨ k = 2 ∨ k = 3 := by omega
        all_goals exact hX (by omega) (by decide : (1 : Int) ≠ 0)
      · exfalso
        obtain rfl | rfl | rfl | rfl | rfl | rfl : c = 263 ∨ c = 264 ∨ c = 265 ∨ c = 266 ∨ c = 267 ∨ c = 268 := by omega
        all_goals exact hX (by omega) (by decide : (1 : Int) ≠ 0)
      · exfalso
        obtain rfl | rfl | rfl : c = 269 ∨ c = 270 ∨ c = 271 := by omega
        all_goals exact hX (by omega) (by decide : (1 : Int) ≠ 0)
      · obtain ⟨j, hj, rfl⟩ : ∃ j, (0 ≤ j ∧ j ≤ 5) ∧ c = 17 * a + j + 97 := ⟨c - 17 * a - 97, by omega, by omega⟩
        rw [h.2.2]
        exact hv j hj.1 hj.2
      · have P1 := q.2.1.2 a ga.1 ga.2 k h2.1 (by omega)
        have P2 := hA a ga.1 ga.2 k h2.1 (by omega)
        rw [eP] at P2
        rcases h1 with rfl | rfl
        · rw [P1.1, P2.1]
        · rw [P1.2, P2.2]
      · exact absurd (Or.inr h) g1
    · exact fr c k h
  exact q.keep (Kc.of fN hT hT' ho) (fr _ _ (by unfold kPq; omega)) hp (fun c k g _ => fr c k (by unfold kYs at g; unfold kPq; omega)) (fun k g1 g2 => fr _ _ (by unfold kPq; omega)) hx hA
def opP (w w' : eW) : Prop := w' = w ∨ (w 0 13 = 1 ∧ e_fr kNp w w' ∧ ∃ OP OD CL S, kB w' OP OD CL S)
end De
theorem no_de_0 {k : Int} : ¬ kLy 0 k := by unfold kLy; omega
theorem no_de_1 : ¬ kLy 262 0 := by unfold kLy; omega
theorem no_de_2 {k : Int} : ¬ kLy 9 k := by unfold kLy; omega
set_option maxHeartbeats 4000000 in
theorem c_223 {d : Nat} (hd : 33 ≤ d) {w : eW} (hT : e_Has kTy w) (hO : 0 ≤ w 0 13 ∧ w 0 13 ≤ 1) (hC : ∀ a, 0 ≤ a → a ≤ 3 → isCd (w (17 * a + 86) 7)) (hB : w 0 13 = 1 → ∃ OP OD CL S, kB w OP OD CL S) {a n r : Int} (g_a : -2147483648 ≤ a ∧ a ≤ 2147483647) (g_n : -2147483648 ≤ n ∧ n ≤ 2147483647) (g_r : -2147483648 ≤ r ∧ r ≤ 2147483647) {m y : Int} (hm : w (17 * a + 86) 8 = m) (hy : w 262 0 = y) (h62 : 0 ≤ y ∧ y ≤ 60) : e_Ok 20 elay kcode eI d 223 (0, [(0, (1, 0)), (1, (0, a)), (2, (0, n)), (3, (0, r))], [], w) (fun r' w' => ∃ z : Int, r' = [(0, z)] ∧ e_Has kTy w' ∧ opP w w') := by
  obtain ⟨d, rfl⟩ : ∃ e, d = e + 1 := ⟨d - 1, by omega⟩
  have hw0 := e_Has.get hT (c := 0) (k := 11) (lo := 0) (hi := 4) (kt_o rfl) (by decide)
  refine e_Ok.ps2 (x := (0, a)) (y := (1, 0)) (q := 2) 2 rfl ?_
  refine e_Ok.callV rfl (e_dq hd rfl) rfl rfl rfl rfl (c_246 (e_dq hd rfl) hT (by omega)) (fun r1 w2 h3 => ?_)
  obtain ⟨z4, rfl, rfl, q5⟩ := h3
  obtain ⟨rfl, q5⟩ | ⟨rfl, q5⟩ := q5
  · refine e_Ok.nrm (q := 5) (st' := [(0, 1)]) rfl rfl ?_
    refine e_Ok.if1 rfl (fun h6 => ?_) (fun h6 => ?_)
    · replace h6 : (1 : Int) = 0 := h6
      exfalso; omega
    · replace h6 : (1 : Int) ≠ 0 := (show ¬ ((1 : Int) = 0) from h6)
      refine e_Ok.ps3 (x := (0, 16)) (y := (0, 1)) (z := (0, n)) (q := 12) 3 rfl ?_
      refine e_Ok.callS rfl (e_dq hd rfl) rfl rfl (c_242 (by omega) (by omega) (by omega)) (fun r7 w8 h9 => ?_)
      obtain ⟨z10, rfl, rfl, q11⟩ := h9
      obtain ⟨rfl, q11⟩ | ⟨rfl, q11⟩ := q11
      · refine e_Ok.nrm (q := 15) (st' := [(0, 1)]) rfl rfl ?_
        refine e_Ok.if1 rfl (fun h12 => ?_) (fun h12 => ?_)
        · replace h12 : (1 : Int) = 0 := h12
          exfalso; omega
        · replace h12 : (1 : Int) ≠ 0 := (show ¬ ((1 : Int) = 0) from h12)
          refine e_Ok.ps3 (x := (0, 2000)) (y := (0, 0)) (z := (0, r)) (q := 23) 3 rfl ?_
          refine e_Ok.callS rfl (e_dq hd rfl) rfl rfl (c_242 (by omega) (by omega) (by omega)) (fun r13 w14 h15 => ?_)
          obtain ⟨z16, rfl, rfl, q17⟩ := h15
          obtain ⟨rfl, q17⟩ | ⟨rfl, q17⟩ := q17
          · refine e_Ok.nrm (q := 26) (st' := [(0, 1)]) rfl rfl ?_
            refine e_Ok.if1 rfl (fun h18 => ?_) (fun h18 => ?_)
            · replace h18 : (1 : Int) ≠ 0 := h18
              refine e_Ok.ps1 (x := (1, 0)) (q := 32) 1 rfl ?_
              refine e_Ok.getf (z := w 0 13) rfl (el_o rfl) rfl rfl rfl (by omega) ?_
              refine e_Ok.if1 rfl (fun h19 => ?_) (fun h19 => ?_)
              · replace h19 : (w 0 13 : Int) = 0 := h19
                refine e_Ok.ps1 (x := (0, (-2))) (q := 52) 1 rfl ?_
                refine e_Ok.rets rfl rfl ?_
                exact ⟨_, rfl, hT, Or.inl rfl⟩
              · replace h19 : (w 0 13 : Int) ≠ 0 := (show ¬ ((w 0 13 : Int) = 0) from h19)
                refine e_Ok.ps1 (x := (1, 0)) (q := 39) 1 rfl ?_
                refine e_Ok.getr (z := 9) rfl (el_o rfl) rfl rfl (e_Has.eq hT (kt_o rfl)) ⟨by decide, by decide⟩ ?_
                refine e_Ok.ps1 (x := (0, a)) (q := 43) 1 rfl ?_
                refine e_Ok.aald (z := 17 * a + 86) rfl (el_o rfl) rfl (by omega) (Eq.trans (e_Has.eq hT (k9 (by omega))) (by omega)) (by omega) ?_
                have h20 := (e_Has.get hT (c := 17 * a + 86) (k := 11) (lo := 0) (hi := 2) (kA_11 (a := a) (by omega) (by omega)) (by decide))
                refine e_Ok.getf (z := w (17 * a + 86) 11) rfl (lA0 (a := a) (by omega) (by omega)) rfl rfl rfl (e_bq h20 (by decide) (by decide)) ?_
                refine e_Ok.if1 rfl (fun h21 => ?_) (fun h21 => ?_)
                · replace h21 : (w (17 * a + 86) 11 : Int) = 0 := h21
                  obtain ⟨OP, OD, CL, S, hK⟩ := hB (by omega)
                  obtain ⟨hh, hh0, hI⟩ := hK.live
                  have ga : 0 ≤ a ∧ a ≤ 3 := by omega
                  have hAr := hI.arm (a := a) ga.1 ga.2
                  have hjn := kn_joints hT ga
                  have hst : w (17 * a + 86) 11 = 0 := by omega
                  refine e_Ok.ps1 (x := (1, 0)) (q := 54) 1 rfl ?_
                  refine e_Ok.getr (z := 262) rfl (el_o rfl) rfl rfl (e_Has.eq hT (kt_o rfl)) ⟨by decide, by decide⟩ ?_
                  refine e_Ok.ps1 (x := (1, 0)) (q := 58) 1 rfl ?_
                  refine e_Ok.getr (z := 9) rfl (el_o rfl) rfl rfl (e_Has.eq hT (kt_o rfl)) ⟨by decide, by decide⟩ ?_
                  refine e_Ok.ps1 (x := (0, a)) (q := 62) 1 rfl ?_
                  refine e_Ok.aald (z := 17 * a + 86) rfl (el_o rfl) rfl (by omega) (Eq.trans (e_Has.eq hT (k9 (by omega))) (by omega)) (by omega) ?_
                  refine e_Ok.ps2 (x := (0, r)) (y := (0, n)) (q := 65) 2 rfl ?_
                  refine e_Ok.callV rfl (e_dq hd rfl) rfl rfl rfl rfl (e_Ok.out kAlk (c_98 hT (a := a) ga (by omega) (by omega) (fun j g1 g2 => by have g3 := hAr.2.2.1 j g1 g2; have g4 := g3.1.1; have g5 := g3.2.1; omega))) (fun r22 w23 h24 => ?_)
                  obtain ⟨⟨z25, rfl, l1f, l1T, l1r, l1x⟩, l1o⟩ := h24
                  have f26 : e_fr (kPq a m y) w w23 := e_fr.trans (e_fr.refl w) (e_fr.mono l1f (fun c k q => by exact (by unfold kLy at q; unfold kPq; omega)))
                  have v1 : ∀ j, 0 ≤ j → j ≤ 5 → w23 (17 * a + j + 97) 7 = w (17 * a + j + 97) 7 := fun j g1 g2 => l1f _ _ (by unfold kLy; omega)
                  have h1 : e_fr (fun c _ => 262 ≤ c ∧ c ≤ 271) w w23 := l1f.mono (fun c k g => by unfold kLy at g; omega)
                  have a1 : ∀ b, 0 ≤ b → b ≤ 3 → aP w23 b := fun b g1 g2 => aP.hi ⟨g1, g2⟩ h1 hT l1T (hK.2.1.2 b g1 g2)
                  refine e_Ok.nrm (q := 68) (st' := [(0, z25)]) rfl rfl ?_
                  refine e_Ok.if1 rfl (fun h27 => ?_) (fun h27 => ?_)
                  · replace h27 : (z25 : Int) = 0 := h27
                    refine e_Ok.ps1 (x := (0, (-3))) (q := 85) 1 rfl ?_
                    refine e_Ok.rets rfl rfl ?_
                    exact ⟨_, rfl, l1T, Or.inr ⟨by omega, f26.mono (fun c k g => by rcases pq_np ga (by omega) g with g2 | g2; exact Or.inl (Or.inl g2); exact Or.inr g2), OP, OD, CL, S, kB.pl hK hT l1T ga hm hy f26 l1o v1 a1 (by rw [l1f _ _ (by unfold kLy; omega)]; omega)⟩⟩
                  · replace h27 : (z25 : Int) ≠ 0 := (show ¬ ((z25 : Int) = 0) from h27)
                    refine e_Ok.ps1 (x := (1, 0)) (q := 72) 1 rfl ?_
                    refine e_Ok.getr (z := 262) rfl (el_o rfl) rfl rfl ((l1f 0 7 no_de_0).trans (e_Has.eq hT (kt_o rfl))) ⟨by decide, by decide⟩ ?_
                    refine e_Ok.getf (z := y) rfl (el_o rfl) rfl rfl ((l1f 262 0 no_de_1).trans hy) (by omega) ?_
                    refine e_Ok.ps1 (x := (0, 60)) (q := 80) 1 rfl ?_
                    refine e_Ok.if2 rfl (fun h28 => ?_) (fun h28 => ?_)
                    · replace h28 : (y : Int) < 60 := h28
                      refine e_Ok.ps1 (x := (1, 0)) (q := 87) 1 rfl ?_
                      refine e_Ok.getr (z := 262) rfl (el_o rfl) rfl rfl ((l1f 0 7 no_de_0).trans (e_Has.eq hT (kt_o rfl))) ⟨by decide, by decide⟩ ?_
                      refine e_Ok.getf (z := y) rfl (el_o rfl) rfl rfl ((l1f 262 0 no_de_1).trans hy) (by omega) ?_
                      refine e_Ok.run (t' := (96, [(4, (0, y)), (0, (1, 0)), (1, (0, a)), (2, (0, n)), (3, (0, r))], [(1, 0)], w23)) 2 rfl ?_
                      refine e_Ok.getr (z := 262) rfl (el_o rfl) rfl rfl ((l1f 0 7 no_de_0).trans (e_Has.eq hT (kt_o rfl))) ⟨by decide, by decide⟩ ?_
                      refine e_Ok.ps1 (x := (1, 262)) (q := 100) 1 rfl ?_
                      refine e_Ok.getf (z := y) rfl (el_o rfl) rfl rfl ((l1f 262 0 no_de_1).trans hy) (by omega) ?_
                      refine e_Ok.ps1 (x := (0, 1)) (q := 104) 1 rfl ?_
                      refine e_Ok.add (z := y + 1) rfl rfl (by omega) ?_
                      refine e_Ok.putf rfl (el_o rfl) rfl rfl ?_
                      generalize hw29 : e_up w23 262 0 (y + 1) = w29
                      have f30 : e_fr (kPq a m y) w w29 := e_fr.up f26 hw29 (by first | exact Or.inl ⟨rfl, ⟨(by decide), (by decide)⟩⟩ | (unfold kPq; omega))
                      have hT31 : e_Has kTy w29 := e_Has.ups l1T hw29 (kt_o rfl)
                      have e2 : ∀ c k, ¬ (c = 262 ∧ k = 0) → w29 c k = w23 c k := fun c k g => by rw [← hw29]; exact e_up_ne _ _ (by omega)
                      have hL2 : lyI w29 a n m := by have g := (l1x (by omega)).1; rw [hm] at g; exact g.eq (fun c k g => e2 c k (by omega))
                      have o2 : ∀ c k, e_out elay c k → w29 c k = w c k := fun c k g => (e2 c k (fun g2 => by obtain ⟨rfl, rfl⟩ := g2; have z := g.2.2 0 6 13 rfl; omega)).trans (l1o c k g)
                      have v2 : ∀ j, 0 ≤ j → j ≤ 5 → w29 (17 * a + j + 97) 7 = w (17 * a + j + 97) 7 := fun j g1 g2 => (e2 _ _ (by omega)).trans (v1 j g1 g2)
                      have h2 : e_fr (fun c _ => 262 ≤ c ∧ c ≤ 271) w w29 := fun c k g => (e2 c k (by omega)).trans (h1 c k g)
                      have a2 : ∀ b, 0 ≤ b → b ≤ 3 → aP w29 b := fun b g1 g2 => aP.hi ⟨g1, g2⟩ h2 hT hT31 (hK.2.1.2 b g1 g2)
                      have k2 : ∀ b, 0 ≤ b → b ≤ 3 → aK w29 b := aK.any h2 (fun b c k g1 g2 g3 => by omega) (fun b g1 g2 => (hI.arm g1 g2).1)
                      have p2 : w29 262 0 = y + 1 := (e_ue hw29)
                      refine e_Ok.run (t' := (109, [(4, (0, y)), (0, (1, 0)), (1, (0, a)), (2, (0, n)), (3, (0, r))], [(1, 0)], w29)) 1 rfl ?_
                      refine e_Ok.getr (z := 262) rfl (el_o rfl) rfl rfl (e_uq hw29 (Or.inl (by decide)) ((l1f 0 7 no_de_0).trans (e_Has.eq hT (kt_o rfl)))) ⟨by decide, by decide⟩ ?_
                      refine e_Ok.ps1 (x := (1, 0)) (q := 113) 1 rfl ?_
                      refine e_Ok.getr (z := 9) rfl (el_o rfl) rfl rfl (e_uq hw29 (Or.inl (by decide)) ((l1f 0 2 no_de_0).trans (e_Has.eq hT (kt_o rfl)))) ⟨by decide, by decide⟩ ?_
                      refine e_Ok.ps1 (x := (0, a)) (q := 117) 1 rfl ?_
                      refine e_Ok.aald (z := 17 * a + 86) rfl (el_o rfl) rfl (by omega) (e_uq hw29 (Or.inl (by decide)) ((l1f 9 a no_de_2).trans (Eq.trans (e_Has.eq hT (k9 (by omega))) (by omega)))) (by omega) ?_
                      refine e_Ok.ps1 (x := (1, 0)) (q := 119) 1 rfl ?_
                      refine e_Ok.getr (z := 272) rfl (el_o rfl) rfl rfl (e_uq hw29 (Or.inl (by decide)) ((l1f 0 8 no_de_0).trans (e_Has.eq hT (kt_o rfl)))) ⟨by decide, by decide⟩ ?_
                      refine e_Ok.callV rfl (e_dq hd rfl) rfl rfl rfl rfl (c_99 (e_dq hd rfl) hT31 hL2 ga) (fun r32 w33 h34 => ?_)
                      obtain ⟨z35, rfl, rfl, q36⟩ := h34
                      obtain rfl | hgg := q36
                      · refine e_Ok.nrm (q := 125) (st' := [(0, (-1))]) rfl rfl ?_
                        refine e_Ok.run (t' := (129, [(5, (0, (-1))), (4, (0, y)), (0, (1, 0)), (1, (0, a)), (2, (0, n)), (3, (0, r))], [(0, (-1))], w29)) 2 rfl ?_
                        refine e_Ok.if1 rfl (fun h37 => ?_) (fun h37 => ?_)
                        · replace h37 : ((-1) : Int) < 0 := h37
                          refine e_Ok.ps1 (x := (0, (-2))) (q := 159) 1 rfl ?_
                          refine e_Ok.rets rfl rfl ?_
                          exact ⟨_, rfl, hT31, Or.inr ⟨by omega, f30.mono (fun c k g => by rcases pq_np ga (by omega) g with g2 | g2; exact Or.inl (Or.inl g2); exact Or.inr g2), OP, OD, CL, S, kB.pl hK hT hT31 ga hm hy f30 o2 v2 a2 (by rw [p2]; omega)⟩⟩
                        · replace h37 : ((-1) : Int) ≥ 0 := Int.not_lt.mp (show ¬ (((-1) : Int) < 0) from h37)
                          exfalso; omega
                      · refine e_Ok.nrm (q := 125) (st' := [(0, z35)]) rfl rfl ?_
                        refine e_Ok.run (t' := (129, [(5, (0, z35)), (4, (0, y)), (0, (1, 0)), (1, (0, a)), (2, (0, n)), (3, (0, r))], [(0, z35)], w29)) 2 rfl ?_
                        refine e_Ok.if1 rfl (fun h38 => ?_) (fun h38 => ?_)
                        · replace h38 : (z35 : Int) < 0 := h38
                          exfalso; omega
                        · replace h38 : (z35 : Int) ≥ 0 := Int.not_lt.mp (show ¬ ((z35 : Int) < 0) from h38)
                          refine e_Ok.ps1 (x := (1, 0)) (q := 133) 1 rfl ?_
                          refine e_Ok.getr (z := 262) rfl (el_o rfl) rfl rfl (e_uq hw29 (Or.inl (by decide)) ((l1f 0 7 no_de_0).trans (e_Has.eq hT (kt_o rfl)))) ⟨by decide, by decide⟩ ?_
                          refine e_Ok.ps1 (x := (1, 0)) (q := 137) 1 rfl ?_
                          refine e_Ok.getr (z := 9) rfl (el_o rfl) rfl rfl (e_uq hw29 (Or.inl (by decide)) ((l1f 0 2 no_de_0).trans (e_Has.eq hT (kt_o rfl)))) ⟨by decide, by decide⟩ ?_
                          refine e_Ok.ps1 (x := (1, 0)) (q := 141) 1 rfl ?_
                          have h40 := (e_Has.get hT (c := 0) (k := 11) (lo := 0) (hi := 4) (kt_o rfl) (by decide))
                          refine e_Ok.getf (z := w 0 11) rfl (el_o rfl) rfl rfl (e_uq hw29 (Or.inl (by decide)) ((l1f 0 11 no_de_0).trans rfl)) (e_bq h40 (by decide) (by decide)) ?_
                          refine e_Ok.ps1 (x := (1, 0)) (q := 145) 1 rfl ?_
                          refine e_Ok.getr (z := 250) rfl (el_o rfl) rfl rfl (e_uq hw29 (Or.inl (by decide)) ((l1f 0 6 no_de_0).trans (e_Has.eq hT (kt_o rfl)))) ⟨by decide, by decide⟩ ?_
                          refine e_Ok.ps2 (x := (0, z35)) (y := (0, a)) (q := 151) 2 rfl ?_
                          have hvv : ∀ j, 0 ≤ j → j < m → w29 (17 * a + j + 97) 7 = w29 263 j := fun j g1 g2 => by rw [v2 j g1 (by omega), e2 263 j (by omega)]; exact ((l1x (by omega)).2 j g1 (by omega)).symm
                          refine e_Ok.callV rfl (e_dq hd rfl) rfl rfl rfl rfl (e_Ok.out kAlk (c_100 (e_dq hd rfl) hT31 hL2 ga (by omega) hgg k2 hvv)) (fun r41 w42 h43 => ?_)
                          obtain ⟨⟨z44, rfl, s3f, s3T, s3r, s3k, s3v, s3a, s3b⟩, s3o⟩ := h43
                          have f45 : e_fr (kPq a m y) w w42 := e_fr.trans f30 (e_fr.mono s3f (fun c k q => by exact (by unfold kSr at q; unfold kPq; omega)))
                          have o3 : ∀ c k, e_out elay c k → w42 c k = w c k := fun c k g => (s3o c k g).trans (o2 c k g)
                          have v3 : ∀ j, 0 ≤ j → j ≤ 5 → w42 (17 * a + j + 97) 7 = w (17 * a + j + 97) 7 := fun j g1 g2 => (s3v j g1 g2).trans (v2 j g1 g2)
                          have a3 : ∀ b, 0 ≤ b → b ≤ 3 → aP w42 b := fun b g1 g2 => s3a b g1 g2 (a2 b g1 g2)
                          have p3 : w42 262 0 = y + 1 := (s3f _ _ (by unfold kSr; omega)).trans p2
                          refine e_Ok.nrm (q := 154) (st' := [(0, z44)]) rfl rfl ?_
                          refine e_Ok.if1 rfl (fun h46 => ?_) (fun h46 => ?_)
                          · replace h46 : (z44 : Int) ≠ 0 := h46
                            refine e_Ok.ps1 (x := (1, 0)) (q := 161) 1 rfl ?_
                            refine e_Ok.getr (z := 262) rfl (el_o rfl) rfl rfl ((s3f 0 7 (by unfold kSr; omega)).trans (e_uq hw29 (Or.inl (by decide)) ((l1f 0 7 no_de_0).trans (e_Has.eq hT (kt_o rfl))))) ⟨by decide, by decide⟩ ?_
                            refine e_Ok.ps2 (x := (0, z35)) (y := (0, y)) (q := 168) 2 rfl ?_
                            obtain ⟨t, hBF, hg1⟩ := s3b (by omega)
                            have hL3 : lyI w42 a n m := hL2.eq (fun c k g => s3f c k (by unfold kSr; omega))
                            have e53 : w42 265 = w29 265 := funext (fun k => s3f 265 k (by unfold kSr; omega))
                            have e33 : w42 262 3 = w29 262 3 := s3f _ _ (by unfold kSr; omega)
                            rw [← e53, ← e33] at hBF
                            have hgg3 := hgg; rw [← e53] at hgg3
                            refine e_Ok.callV rfl (e_dq hd rfl) rfl rfl rfl rfl (e_Ok.out kAlk (c_105 (e_dq hd rfl) s3T hL3 ga (y := y) (g := z35) (by omega) hgg3 hBF hg1)) (fun r47 w48 h49 => ?_)
                            obtain ⟨⟨rfl, k4f, k4T, k4d, k4p⟩, k4o⟩ := h49
                            have f50 : e_fr (kPq a m y) w w48 := e_fr.trans f45 (e_fr.mono k4f (fun c k q => by exact (by unfold kKp at q; unfold kPq; omega)))
                            have o4 : ∀ c k, e_out elay c k → w48 c k = w c k := fun c k g => (k4o c k g).trans (o3 c k g)
                            have v4 : ∀ j, 0 ≤ j → j ≤ 5 → w48 (17 * a + j + 97) 7 = w (17 * a + j + 97) 7 := fun j g1 g2 => (k4f _ _ (by unfold kKp; omega)).trans (v3 j g1 g2)
                            have h4 : e_fr (fun c _ => 262 ≤ c ∧ c ≤ 271) w42 w48 := k4f.mono (fun c k g => by unfold kKp at g; omega)
                            have a4 : ∀ b, 0 ≤ b → b ≤ 3 → aP w48 b := fun b g1 g2 => aP.hi ⟨g1, g2⟩ h4 s3T k4T (a3 b g1 g2)
                            have p4 : w48 262 0 = y + 1 := (k4f _ _ (by unfold kKp; omega)).trans p3
                            show e_Ok 20 elay kcode eI (d + 1) 223 (171, [(5, (0, z35)), (4, (0, y)), (0, (1, 0)), (1, (0, a)), (2, (0, n)), (3, (0, r))], [], w48) _
                            refine e_Ok.run (t' := (178, [(5, (0, z35)), (4, (0, y)), (0, (1, 0)), (1, (0, a)), (2, (0, n)), (3, (0, r))], [(0, 0), (0, y), (0, a), (0, 10), (1, 0)], w48)) 5 rfl ?_
                            have hK4 := kB.pl hK hT k4T ga hm hy f50 o4 v4 a4 (by rw [p4]; omega)
                            have hO4 : w48 0 13 = 1 := (f50 _ _ (by unfold kPq; omega)).trans (by omega)
                            have e84 : w48 (17 * a + 86) 8 = m := (f50 _ _ (by unfold kPq; omega)).trans hm
                            have hR4 : rwC w48 10 a y 0 := rwC.k10 ⟨ga, by omega, by rw [f50 _ _ (by unfold kPq; omega)]; exact hst, by rw [e84]; exact k4d, by rw [e84]; exact k4p.eq (fun _ _ _ _ => rfl) (fun _ _ _ => ⟨rfl, rfl⟩) (fun j g1 g2 => by rw [v4 j g1 (by omega), s3f 263 j (by unfold kSr; omega), e2 263 j (by omega)]; exact ((l1x (by omega)).2 j g1 (by omega)).symm)⟩
                            refine e_Ok.callV rfl (e_dq hd rfl) rfl rfl rfl rfl (c_255 (e_dq hd rfl) k4T hK4 hO4 (by omega) (by omega) (by omega) (by omega) (by decide) hR4 (fun _ => by rw [p4]; omega)) (fun r51 w52 h53 => ?_)
                            obtain ⟨z54, rfl, n5T, n5x⟩ := h53
                            refine e_Ok.nrm (q := 181) (st' := [(0, z54)]) rfl rfl ?_
                            refine e_Ok.rets rfl rfl ?_
                            have f5 : e_fr kNp w w48 := f50.mono (fun c k g => by rcases pq_np ga (by omega) g with g2 | g2; exact Or.inl (Or.inl g2); exact Or.inr g2)
                            rcases n5x with g | ⟨-, g1, g2⟩
                            · rw [g]; exact ⟨_, rfl, k4T, Or.inr ⟨by omega, f5, OP, OD, CL, S, hK4⟩⟩
                            · exact ⟨_, rfl, n5T, Or.inr ⟨by omega, e_fr.trans f5 (g1.mono (fun c k g => Or.inl g)), g2⟩⟩
                          · replace h46 : (z44 : Int) = 0 := Classical.not_not.mp (show ¬ ((z44 : Int) ≠ 0) from h46)
                            refine e_Ok.ps1 (x := (0, (-2))) (q := 159) 1 rfl ?_
                            refine e_Ok.rets rfl rfl ?_
                            exact ⟨_, rfl, s3T, Or.inr ⟨by omega, f45.mono (fun c k g => by rcases pq_np ga (by omega) g with g2 | g2; exact Or.inl (Or.inl g2); exact Or.inr g2), OP, OD, CL, S, kB.pl hK hT s3T ga hm hy f45 o3 v3 a3 (by rw [p3]; omega)⟩⟩
                    · replace h28 : (y : Int) ≥ 60 := Int.not_lt.mp (show ¬ ((y : Int) < 60) from h28)
                      refine e_Ok.ps1 (x := (0, (-3))) (q := 85) 1 rfl ?_
                      refine e_Ok.rets rfl rfl ?_
                      exact ⟨_, rfl, l1T, Or.inr ⟨by omega, f26.mono (fun c k g => by rcases pq_np ga (by omega) g with g2 | g2; exact Or.inl (Or.inl g2); exact Or.inr g2), OP, OD, CL, S, kB.pl hK hT l1T ga hm hy f26 l1o v1 a1 (by rw [l1f _ _ (by unfold kLy; omega)]; omega)⟩⟩
                · replace h21 : (w (17 * a + 86) 11 : Int) ≠ 0 := (show ¬ ((w (17 * a + 86) 11 : Int) = 0) from h21)
                  refine e_Ok.ps1 (x := (0, (-2))) (q := 52) 1 rfl ?_
                  refine e_Ok.rets rfl rfl ?_
                  exact ⟨_, rfl, hT, Or.inl rfl⟩
            · replace h18 : (1 : Int) = 0 := Classical.not_not.mp (show ¬ ((1 : Int) ≠ 0) from h18)
              exfalso; omega
          · refine e_Ok.nrm (q := 26) (st' := [(0, 0)]) rfl rfl ?_
            refine e_Ok.if1 rfl (fun h55 => ?_) (fun h55 => ?_)
            · replace h55 : (0 : Int) ≠ 0 := h55
              exfalso; omega
            · replace h55 : (0 : Int) = 0 := Classical.not_not.mp (show ¬ ((0 : Int) ≠ 0) from h55)
              refine e_Ok.ps1 (x := (0, (-1))) (q := 30) 1 rfl ?_
              refine e_Ok.rets rfl rfl ?_
              exact ⟨_, rfl, hT, Or.inl rfl⟩
      · refine e_Ok.nrm (q := 15) (st' := [(0, 0)]) rfl rfl ?_
        refine e_Ok.if1 rfl (fun h56 => ?_) (fun h56 => ?_)
        · replace h56 : (0 : Int) = 0 := h56
          refine e_Ok.ps1 (x := (0, (-1))) (q := 30) 1 rfl ?_
          refine e_Ok.rets rfl rfl ?_
          exact ⟨_, rfl, hT, Or.inl rfl⟩
        · replace h56 : (0 : Int) ≠ 0 := (show ¬ ((0 : Int) = 0) from h56)
          exfalso; omega
  · refine e_Ok.nrm (q := 5) (st' := [(0, 0)]) rfl rfl ?_
    refine e_Ok.if1 rfl (fun h57 => ?_) (fun h57 => ?_)
    · replace h57 : (0 : Int) = 0 := h57
      refine e_Ok.ps1 (x := (0, (-1))) (q := 30) 1 rfl ?_
      refine e_Ok.rets rfl rfl ?_
      exact ⟨_, rfl, hT, Or.inl rfl⟩
    · replace h57 : (0 : Int) ≠ 0 := (show ¬ ((0 : Int) = 0) from h57)
      exfalso; omega
end
