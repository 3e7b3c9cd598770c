noncomputable section
/-! the class: an arm is as at the beginning -/
def kAr (a : Int) (c k : Int) : Prop := (c = 17 * a + 86 ∧ (k = 11 ∨ (13 ≤ k ∧ k ≤ 19))) ∨ (17 * a + 97 ≤ c ∧ c ≤ 17 * a + 102 ∧ 7 ≤ k ∧ k ≤ 9) ∨ ((c = 17 * a + 88 ∨ c = 17 * a + 89) ∧ 1 ≤ k) ∨ c = 17 * a + 90 ∨ c = 17 * a + 91 ∨ c = 17 * a + 93
/-- an arm as it is at the beginning -/
def aR0 (w : eW) (a : Int) : Prop := (w (17 * a + 86) 11 = 0 ∧ w (17 * a + 86) 13 = -1 ∧ w (17 * a + 86) 14 = -1 ∧ w (17 * a + 86) 15 = 0 ∧ w (17 * a + 86) 16 = -1 ∧ w (17 * a + 86) 17 = -1 ∧ w (17 * a + 86) 18 = -1 ∧ w (17 * a + 86) 19 = 0) ∧ (∀ j, 0 ≤ j → j < 6 → w (17 * a + j + 97) 7 = 0 ∧ w (17 * a + j + 97) 8 = 0 ∧ w (17 * a + j + 97) 9 = 0) ∧ (∀ k, 0 ≤ k → k < 32 → w (17 * a + 93) k = 0) ∧ aK w a ∧ oK w a
theorem c_452_93z {d : Nat} {w : eW} (hT : e_Has kCy w) {a : Int} (g_a : 0 ≤ a ∧ a ≤ 3) : e_Ok 20 elay kcode eI d 452 (0, [(0, (1, 17 * a + 93)), (1, (0, 0))], [], w) (fun r w' => r = [] ∧ e_fr (kF93 a) w w' ∧ e_Has kCy w' ∧ (∀ k, 0 ≤ k → k < 32 → w' (17 * a + 93) k = 0)) := by
  refine e_Ok.run (t' := (3, [(2, (0, 0)), (0, (1, 17 * a + 93)), (1, (0, 0))], [(1, 17 * a + 93)], w)) 3 rfl ?_
  refine e_Ok.alen rfl (lA7 (a := a) (by omega) (by omega)) rfl ?_
  refine e_Ok.run (t' := (5, [(3, (0, 32)), (2, (0, 0)), (0, (1, 17 * a + 93)), (1, (0, 0))], [], w)) 1 rfl ?_
  have hL1 : ∀ (nn : Nat) (y2 : Int) (v1 : eW), e_fr (kF93 a) w v1 ∧ e_Has kCy v1 ∧ (∀ i, 0 ≤ i → i < y2 → v1 (17 * a + 93) i = 0) ∧ (0 ≤ y2 ∧ y2 ≤ 32) → 32 - y2 < nn → e_Ok 20 elay kcode eI d 452 (5, [(0, (1, 17 * a + 93)), (1, (0, 0)), (2, (0, y2)), (3, (0, 32))], [], v1) (fun r w' => r = [] ∧ e_fr (kF93 a) w w' ∧ e_Has kCy w' ∧ (∀ k, 0 ≤ k → k < 32 → w' (17 * a + 93) k = 0)) := by
    intro nn
    induction nn with
    | zero => intro y2 v1 hj hm; obtain ⟨j3, j4, j5, j6⟩ := hj; exfalso; omega
    | succ nn ih2 =>
      intro y2 v1 hj hm
      obtain ⟨j3, j4, j5, j6⟩ := hj
      refine e_Ok.run (t' := (7, [(0, (1, 17 * a + 93)), (1, (0, 0)), (2, (0, y2)), (3, (0, 32))], [(0, 32), (0, y2)], v1)) 2 rfl ?_
      refine e_Ok.if2 rfl (fun h7 => ?_) (fun h7 => ?_)
      · replace h7 : (y2 : Int) ≥ 32 := h7
        refine e_Ok.rets rfl rfl ?_
        exact ⟨rfl, j3, j4, fun k g1 g2 => j5 k g1 (by omega)⟩
      · replace h7 : (y2 : Int) < 32 := by have q : ¬ ((y2 : Int) ≥ 32) := h7; omega
        refine e_Ok.run (t' := (13, [(0, (1, 17 * a + 93)), (1, (0, 0)), (2, (0, y2)), (3, (0, 32))], [(0, 0), (0, y2), (1, 17 * a + 93)], v1)) 3 rfl ?_
        refine e_Ok.ast rfl (lA7 (a := a) (by omega) (by omega)) rfl rfl (by omega) ?_
        generalize hw8 : e_up v1 (17 * a + 93) y2 0 = w8
        have f9 : e_fr (kF93 a) w w8 := e_fr.up j3 hw8 (by unfold kF93; omega)
        have hT10 : e_Has kCy w8 := e_Has.ups j4 hw8 (kCy_no2 (Or.inl (Or.inr (Or.inr (Or.inr (Or.inr (Or.inr (Or.inr (Or.inr (Or.inr (Or.inr (Or.inr (Or.inr (Or.inr (Or.inr (Or.inr (Or.inr (Or.inl (by omega)))))))))))))))))) (kA93 (a := a) _ (by omega) (by omega)) (by decide))
        refine e_Ok.inc (z := y2 + 1) rfl rfl (by omega) (by omega) ?_
        show e_Ok 20 elay kcode eI d 452 (17, [(2, (0, y2 + 1)), (0, (1, 17 * a + 93)), (1, (0, 0)), (3, (0, 32))], [], w8) _
        refine e_Ok.run (t' := (5, [(2, (0, y2 + 1)), (0, (1, 17 * a + 93)), (1, (0, 0)), (3, (0, 32))], [], w8)) 1 rfl ?_
        refine e_Ok.sub kAlk (e_sub_of rfl ?_) (ih2 (y2 + 1) w8 ⟨f9, hT10, (fun i g1 g2 => by rw [← hw8]; by_cases e : i = y2; (rw [e, e_up_eq]); (rw [e_up_ne _ _ (Or.inr e)]; exact j5 i g1 (by omega))), by omega⟩ (by omega))
        exact ⟨rfl, rfl, rfl, rfl, trivial⟩
  refine e_Ok.sub kAlk (e_sub_of rfl ?_) (hL1 (32 + 1 : Int).toNat 0 w ⟨(e_fr.refl w), hT, (fun i g1 g2 => by omega), by omega⟩ (by omega))
  exact ⟨rfl, rfl, rfl, rfl, trivial⟩
theorem c_17_z {d : Nat} {w : eW} (hT : e_Has kCy w) {a : Int} (g_a : 0 ≤ a ∧ a ≤ 3) : e_Ok 20 elay kcode eI d 17 (0, [(0, (1, 17 * a + 86))], [], w) (fun r w' => r = [] ∧ e_fr (kSt a) w w' ∧ e_Has kCy w' ∧ (w' (17 * a + 86) 11 = 0 ∧ w' (17 * a + 86) 13 = -1 ∧ w' (17 * a + 86) 18 = -1) ∧ ∀ i, 0 ≤ i → i < 6 → w' (17 * a + i + 97) 8 = 0) := by
  refine e_Ok.run (t' := (2, [(0, (1, 17 * a + 86))], [(0, 0), (1, 17 * a + 86)], w)) 2 rfl ?_
  refine e_Ok.putf rfl (lA0 (a := a) (by omega) (by omega)) rfl rfl ?_
  generalize hw1 : e_up w (17 * a + 86) 11 0 = w1
  have f2 : e_fr (kSt a) w w1 := e_fr.up (e_fr.refl w) hw1 (by unfold kSt; omega)
  have hT3 : e_Has kCy w1 := e_Has.ups hT hw1 (kCy_no2 (Or.inl (Or.inr (Or.inr (Or.inr (Or.inr (Or.inr (Or.inr (Or.inr (Or.inr (Or.inr (Or.inr (Or.inr (Or.inr (Or.inr (Or.inl (by omega)))))))))))))))) (kA_11 (a := a) (by omega) (by omega)) (by decide))
  refine e_Ok.run (t' := (7, [(0, (1, 17 * a + 86))], [(0, (-1)), (1, 17 * a + 86)], w1)) 2 rfl ?_
  refine e_Ok.putf rfl (lA0 (a := a) (by omega) (by omega)) rfl rfl ?_
  generalize hw4 : e_up w1 (17 * a + 86) 13 (-1) = w4
  have f5 : e_fr (kSt a) w w4 := e_fr.up f2 hw4 (by unfold kSt; omega)
  have hT6 : e_Has kCy w4 := e_Has.ups hT3 hw4 (kCy_no2 (Or.inl (Or.inr (Or.inr (Or.inr (Or.inr (Or.inr (Or.inr (Or.inr (Or.inr (Or.inr (Or.inr (Or.inr (Or.inr (Or.inr (Or.inl (by omega)))))))))))))))) (kA_13 (a := a) (by omega) (by omega)) (by decide))
  refine e_Ok.run (t' := (12, [(0, (1, 17 * a + 86))], [(0, (-1)), (1, 17 * a + 86)], w4)) 2 rfl ?_
  refine e_Ok.putf rfl (lA0 (a := a) (by omega) (by omega)) rfl rfl ?_
  generalize hw7 : e_up w4 (17 * a + 86) 18 (-1) = w7
  have f8 : e_fr (kSt a) w w7 := e_fr.up f5 hw7 (by unfold kSt; omega)
  have hT9 : e_Has kCy w7 := e_Has.ups hT6 hw7 (kCy_no2 (Or.inl (Or.inr (Or.inr (Or.inr (Or.inr (Or.inr (Or.inr (Or.inr (Or.inr (Or.inr (Or.inr (Or.inr (Or.inr (Or.inr (Or.inl (by omega)))))))))))))))) (kA_18 (a := a) (by omega) (by omega)) (by decide))
  refine e_Ok.run (t' := (17, [(1, (0, 0)), (0, (1, 17 * a + 86))], [], w7)) 2 rfl ?_
  have hL10 : ∀ (nn : Nat) (y1 : Int) (v1 : eW), e_fr (kSt a) w v1 ∧ e_Has kCy v1 ∧ (∀ i, 0 ≤ i → i < y1 → v1 (17 * a + i + 97) 8 = 0) ∧ v1 (17 * a + 86) 11 = 0 ∧ v1 (17 * a + 86) 13 = -1 ∧ v1 (17 * a + 86) 18 = -1 ∧ (0 ≤ y1 ∧ y1 ≤ 6) → 6 - y1 < nn → e_Ok 20 elay kcode eI d 17 (17, [(0, (1, 17 * a + 86)), (1, (0, y1))], [], v1) (fun r w' => r = [] ∧ e_fr (kSt a) w w' ∧ e_Has kCy w' ∧ (w' (17 * a + 86) 11 = 0 ∧ w' (17 * a + 86) 13 = -1 ∧ w' (17 * a + 86) 18 = -1) ∧ ∀ i, 0 ≤ i → i < 6 → w' (17 * a + i + 97) 8 = 0) := by
    intro nn
    induction nn with
    | zero => intro y1 v1 hj hm; obtain ⟨j12, j13, j14, j15, j16, j17, j18⟩ := hj; exfalso; omega
    | succ nn ih11 =>
      intro y1 v1 hj hm
      obtain ⟨j12, j13, j14, j15, j16, j17, j18⟩ := hj
      refine e_Ok.run (t' := (20, [(0, (1, 17 * a + 86)), (1, (0, y1))], [(0, 6), (0, y1)], v1)) 2 rfl ?_
      refine e_Ok.if2 rfl (fun h19 => ?_) (fun h19 => ?_)
      · replace h19 : (y1 : Int) ≥ 6 := h19
        refine e_Ok.rets rfl rfl ?_
        exact ⟨rfl, j12, j13, ⟨⟨j15, j16, j17⟩, fun i g1 g2 => j14 i g1 (by omega)⟩⟩
      · replace h19 : (y1 : Int) < 6 := by have q : ¬ ((y1 : Int) ≥ 6) := h19; omega
        refine e_Ok.run (t' := (24, [(0, (1, 17 * a + 86)), (1, (0, y1))], [(1, 17 * a + 86)], v1)) 1 rfl ?_
        refine e_Ok.getr (z := 17 * a + 87) rfl (lA0 (a := a) (by omega) (by omega)) rfl rfl ((j12 (17 * a + 86) 0 (by unfold kSt; omega)).trans (Eq.trans (e_Has.eq hT (kCy_c (kA_0 (a := a) (by omega) (by omega)))) (by omega))) (by omega) ?_
        refine e_Ok.run (t' := (28, [(0, (1, 17 * a + 86)), (1, (0, y1))], [(0, y1), (1, 17 * a + 87)], v1)) 1 rfl ?_
        refine e_Ok.aald (z := 17 * a + y1 + 97) rfl (lA1 (a := a) (by omega) (by omega)) rfl (by omega) ((j12 (17 * a + 87) y1 (by unfold kSt; omega)).trans (Eq.trans (e_Has.eq hT (kCy_c (kA87 (a := a) (by omega) (by omega) (by omega)))) (by omega))) (by omega) ?_
        refine e_Ok.run (t' := (30, [(0, (1, 17 * a + 86)), (1, (0, y1))], [(0, 0), (1, 17 * a + y1 + 97)], v1)) 1 rfl ?_
        refine e_Ok.putf rfl (lJ (a := a) (j := y1) (by omega) (by omega) (by omega)) rfl rfl ?_
        generalize hw20 : e_up v1 (17 * a + y1 + 97) 8 0 = w20
        have f21 : e_fr (kSt a) w w20 := e_fr.up j12 hw20 (by unfold kSt; omega)
        have hT22 : e_Has kCy w20 := e_Has.ups j13 hw20 (kCy_no2 (Or.inl (Or.inr (Or.inr (Or.inr (Or.inr (Or.inr (Or.inr (Or.inr (Or.inr (Or.inr (Or.inr (Or.inr (Or.inr (Or.inr (Or.inr (Or.inr (Or.inr ((by omega))))))))))))))))))) (kJ_8 (a := a) (j := y1) (by omega) (by omega) (by omega)) (by decide))
        refine e_Ok.inc (z := y1 + 1) rfl rfl (by omega) (by omega) ?_
        show e_Ok 20 elay kcode eI d 17 (36, [(1, (0, y1 + 1)), (0, (1, 17 * a + 86))], [], w20) _
        refine e_Ok.run (t' := (17, [(1, (0, y1 + 1)), (0, (1, 17 * a + 86))], [], w20)) 1 rfl ?_
        refine e_Ok.sub kAlk (e_sub_of rfl ?_) (ih11 (y1 + 1) w20 ⟨f21, hT22, (fun i g1 g2 => by rw [← hw20]; by_cases e : i = y1; (rw [e]; exact e_up_eq _ _ _ _); (rw [e_up_ne _ _ (Or.inl (by omega))]; exact j14 i g1 (by omega))), (by rw [← hw20]; exact (e_up_ne _ _ (Or.inl (by omega))).trans j15), (by rw [← hw20]; exact (e_up_ne _ _ (Or.inl (by omega))).trans j16), (by rw [← hw20]; exact (e_up_ne _ _ (Or.inl (by omega))).trans j17), by omega⟩ (by omega))
        exact ⟨rfl, rfl, trivial⟩
  refine e_Ok.sub kAlk (e_sub_of rfl ?_) (hL10 (6 + 1 : Int).toNat 0 w7 ⟨f8, hT9, (fun i g1 g2 => by omega), (by rw [← hw7]; exact (e_up_ne _ _ (Or.inr (by omega))).trans (by rw [← hw4]; exact (e_up_ne _ _ (Or.inr (by omega))).trans (by rw [← hw1]; exact e_up_eq _ _ _ _))), (by rw [← hw7]; exact (e_up_ne _ _ (Or.inr (by omega))).trans (by rw [← hw4]; exact e_up_eq _ _ _ _)), (by rw [← hw7]; exact e_up_eq _ _ _ _), by omega⟩ (by omega))
  exact ⟨rfl, rfl, trivial⟩
theorem c_11_z {d : Nat} {w : eW} (hT : e_Has kCy w) {a : Int} (g_a : 0 ≤ a ∧ a ≤ 3) (kx : aK w a) : e_Ok 20 elay kcode eI d 11 (0, [(0, (1, 17 * a + 86))], [], w) (fun r w' => r = [] ∧ e_fr (kOl a) w w' ∧ e_Has kCy w' ∧ oK w' a) := by
  have hjn := kz_joints hT (a := a) (by omega)
  refine e_Ok.run (t' := (2, [(1, (0, 0)), (0, (1, 17 * a + 86))], [], w)) 2 rfl ?_
  have hL1 : ∀ (nn : Nat) (y1 : Int) (v1 : eW), e_fr (kOl a) w v1 ∧ e_Has kCy v1 ∧ e_kn v1 (17 * a + 90) 0 (y1 - 1) ∧ e_kn v1 (17 * a + 91) 0 (y1 - 1) ∧ y1 ≤ w (17 * a + 86) 8 + 1 ∧ (0 ≤ y1 ∧ y1 ≤ 7) → 7 - y1 < nn → e_Ok 20 elay kcode eI d 11 (2, [(0, (1, 17 * a + 86)), (1, (0, y1))], [], v1) (fun r w' => r = [] ∧ e_fr (kOl a) w w' ∧ e_Has kCy w' ∧ oK w' a) := by
    intro nn
    induction nn with
    | zero => intro y1 v1 hj hm; obtain ⟨j3, j4, j5, j6, j7, j8⟩ := hj; exfalso; omega
    | succ nn ih2 =>
      intro y1 v1 hj hm
      obtain ⟨j3, j4, j5, j6, j7, j8⟩ := hj
      have l9 : v1 (17 * a + 86) 8 = w (17 * a + 86) 8 := j3 (17 * a + 86) 8 (by unfold kOl; omega)
      refine e_Ok.run (t' := (4, [(0, (1, 17 * a + 86)), (1, (0, y1))], [(1, 17 * a + 86), (0, y1)], v1)) 2 rfl ?_
      have h10 := (e_Has.get hT (c := 17 * a + 86) (k := 8) (lo := 0) (hi := 6) (kCy_n (by unfold kNh kNw; omega) (kA_8 (a := a) (by omega) (by omega))) (by decide))
      refine e_Ok.getf (z := w (17 * a + 86) 8) rfl (lA0 (a := a) (by omega) (by omega)) rfl rfl ((j3 (17 * a + 86) 8 (by unfold kOl; omega)).trans rfl) (by omega) ?_
      refine e_Ok.if2 rfl (fun h11 => ?_) (fun h11 => ?_)
      · replace h11 : (y1 : Int) > w (17 * a + 86) 8 := h11
        refine e_Ok.rets rfl rfl ?_
        exact ⟨rfl, j3, j4, (by unfold oK; rw [(show v1 (17 * a + 86) 8 = w (17 * a + 86) 8 from j3 _ _ (by unfold kOl; omega))]; exact ⟨e_kn_sub j5 (by omega) (by omega), e_kn_sub j6 (by omega) (by omega)⟩)⟩
      · replace h11 : (y1 : Int) ≤ w (17 * a + 86) 8 := by have q : ¬ ((y1 : Int) > w (17 * a + 86) 8) := h11; omega
        refine e_Ok.run (t' := (11, [(0, (1, 17 * a + 86)), (1, (0, y1))], [(1, 17 * a + 86)], v1)) 1 rfl ?_
        refine e_Ok.getr (z := 17 * a + 90) rfl (lA0 (a := a) (by omega) (by omega)) rfl rfl ((j3 (17 * a + 86) 3 (by unfold kOl; omega)).trans (Eq.trans (e_Has.eq hT (kCy_c (kA_3 (a := a) (by omega) (by omega)))) (by omega))) (by omega) ?_
        refine e_Ok.run (t' := (16, [(0, (1, 17 * a + 86)), (1, (0, y1))], [(1, 17 * a + 86), (0, y1), (1, 17 * a + 90)], v1)) 2 rfl ?_
        refine e_Ok.getr (z := 17 * a + 88) rfl (lA0 (a := a) (by omega) (by omega)) rfl rfl ((j3 (17 * a + 86) 1 (by unfold kOl; omega)).trans (Eq.trans (e_Has.eq hT (kCy_c (kA_1 (a := a) (by omega) (by omega)))) (by omega))) (by omega) ?_
        refine e_Ok.run (t' := (20, [(0, (1, 17 * a + 86)), (1, (0, y1))], [(0, y1), (1, 17 * a + 88), (0, y1), (1, 17 * a + 90)], v1)) 1 rfl ?_
        have h12 := (kx.1 y1 (by omega) (by omega))
        refine e_Ok.ald (z := w (17 * a + 88) y1) rfl (lA2 (a := a) (by omega) (by omega)) rfl (by omega) ((j3 (17 * a + 88) y1 (by unfold kOl; omega)).trans rfl) (by omega) ?_
        refine e_Ok.ast rfl (lA4 (a := a) (by omega) (by omega)) rfl rfl (by omega) ?_
        generalize hw13 : e_up v1 (17 * a + 90) y1 (w (17 * a + 88) y1) = w13
        have f14 : e_fr (kOl a) w w13 := e_fr.up j3 hw13 (by unfold kOl; omega)
        have l15 : w13 (17 * a + 86) 8 = w (17 * a + 86) 8 := f14 (17 * a + 86) 8 (by unfold kOl; omega)
        have hT16 : e_Has kCy w13 := e_Has.ups j4 hw13 (kCy_no1 (kA90 (a := a) _ (by omega) (by omega)))
        refine e_Ok.run (t' := (23, [(0, (1, 17 * a + 86)), (1, (0, y1))], [(1, 17 * a + 86)], w13)) 1 rfl ?_
        refine e_Ok.getr (z := 17 * a + 91) rfl (lA0 (a := a) (by omega) (by omega)) rfl rfl (by rw [← hw13]; exact (e_up_ne _ _ (Or.inl (by omega))).trans ((j3 (17 * a + 86) 4 (by unfold kOl; omega)).trans (Eq.trans (e_Has.eq hT (kCy_c (kA_4 (a := a) (by omega) (by omega)))) (by omega)))) (by omega) ?_
        refine e_Ok.run (t' := (28, [(0, (1, 17 * a + 86)), (1, (0, y1))], [(1, 17 * a + 86), (0, y1), (1, 17 * a + 91)], w13)) 2 rfl ?_
        refine e_Ok.getr (z := 17 * a + 89) rfl (lA0 (a := a) (by omega) (by omega)) rfl rfl (by rw [← hw13]; exact (e_up_ne _ _ (Or.inl (by omega))).trans ((j3 (17 * a + 86) 2 (by unfold kOl; omega)).trans (Eq.trans (e_Has.eq hT (kCy_c (kA_2 (a := a) (by omega) (by omega)))) (by omega)))) (by omega) ?_
        refine e_Ok.run (t' := (32, [(0, (1, 17 * a + 86)), (1, (0, y1))], [(0, y1), (1, 17 * a + 89), (0, y1), (1, 17 * a + 91)], w13)) 1 rfl ?_
        have h17 := (kx.2 y1 (by omega) (by omega))
        refine e_Ok.ald (z := w (17 * a + 89) y1) rfl (lA3 (a := a) (by omega) (by omega)) rfl (by omega) (by rw [← hw13]; exact (e_up_ne _ _ (Or.inl (by omega))).trans ((j3 (17 * a + 89) y1 (by unfold kOl; omega)).trans rfl)) (by omega) ?_
        refine e_Ok.ast rfl (lA5 (a := a) (by omega) (by omega)) rfl rfl (by omega) ?_
        generalize hw18 : e_up w13 (17 * a + 91) y1 (w (17 * a + 89) y1) = w18
        have f19 : e_fr (kOl a) w w18 := e_fr.up f14 hw18 (by unfold kOl; omega)
        have l20 : w18 (17 * a + 86) 8 = w (17 * a + 86) 8 := f19 (17 * a + 86) 8 (by unfold kOl; omega)
        have hT21 : e_Has kCy w18 := e_Has.ups hT16 hw18 (kCy_no1 (kA91 (a := a) _ (by omega) (by omega)))
        refine e_Ok.inc (z := y1 + 1) rfl rfl (by omega) (by omega) ?_
        show e_Ok 20 elay kcode eI d 11 (37, [(1, (0, y1 + 1)), (0, (1, 17 * a + 86))], [], w18) _
        refine e_Ok.run (t' := (2, [(1, (0, y1 + 1)), (0, (1, 17 * a + 86))], [], w18)) 1 rfl ?_
        refine e_Ok.sub kAlk (e_sub_of rfl ?_) (ih2 (y1 + 1) w18 ⟨f19, hT21, (e_kn_sub (e_kn.oth (e_kn.ext j5 hw13 (by omega) (by omega)) hw18 (by omega)) (by omega) (by omega)), (e_kn_sub (e_kn.ext (e_kn.oth j6 hw13 (by omega)) hw18 (by omega) (by omega)) (by omega) (by omega)), by omega, by omega⟩ (by omega))
        exact ⟨rfl, rfl, trivial⟩
  refine e_Ok.sub kAlk (e_sub_of rfl ?_) (hL1 (7 + 1 : Int).toNat 0 w ⟨(e_fr.refl w), hT, (fun i g1 g2 => by omega), (fun i g1 g2 => by omega), by omega, by omega⟩ (by omega))
  exact ⟨rfl, rfl, trivial⟩
set_option maxHeartbeats 4000000 in
theorem c_3_z {d : Nat} (hd : 24 ≤ d) {w : eW} (hT : e_Has kCy w) {a : Int} (ga : 0 ≤ a ∧ a ≤ 3) (hx : kn1 (w (17 * a + 88) 0)) (hy : kn1 (w (17 * a + 89) 0)) : e_Ok 20 elay kcode eI d 3 (0, [(0, (1, 17 * a + 86))], [], w) (fun r w' => r = [] ∧ e_fr (kAr a) w w' ∧ e_Has kCy w' ∧ aR0 w' a) := by
  obtain ⟨d, rfl⟩ : ∃ e, d = e + 1 := ⟨d - 1, by omega⟩
  refine e_Ok.run (t' := (2, [(1, (0, 0)), (0, (1, 17 * a + 86))], [], w)) 2 rfl ?_
  have hL1 : ∀ (nn : Nat) (y1 : Int) (v1 : eW), e_fr (kAr a) w v1 ∧ e_Has kCy v1 ∧ (∀ i, 0 ≤ i → i < y1 → v1 (17 * a + i + 97) 7 = 0 ∧ v1 (17 * a + i + 97) 9 = 0) ∧ (0 ≤ y1 ∧ y1 ≤ 6) → 6 - y1 < nn → e_Ok 20 elay kcode eI (d + 1) 3 (2, [(0, (1, 17 * a + 86)), (1, (0, y1))], [], v1) (fun r w' => r = [] ∧ e_fr (kAr a) w w' ∧ e_Has kCy w' ∧ aR0 w' a) := by
    intro nn
    induction nn with
    | zero => intro y1 v1 hj hm; obtain ⟨j3, j4, j5, j6⟩ := hj; exfalso; omega
    | succ nn ih2 =>
      intro y1 v1 hj hm
      obtain ⟨j3, j4, j5, j6⟩ := hj
      refine e_Ok.run (t' := (5, [(0, (1, 17 * a + 86)), (1, (0, y1))], [(0, 6), (0, y1)], v1)) 2 rfl ?_
      refine e_Ok.if2 rfl (fun h7 => ?_) (fun h7 => ?_)
      · replace h7 : (y1 : Int) ≥ 6 := h7
        refine e_Ok.run (t' := (35, [(0, (1, 17 * a + 86)), (1, (0, y1))], [(1, 17 * a + 86)], v1)) 1 rfl ?_
        refine e_Ok.getr (z := 17 * a + 93) rfl (lA0 (a := a) (by omega) (by omega)) rfl rfl ((j3 (17 * a + 86) 6 (by unfold kAr; omega)).trans (Eq.trans (e_Has.eq hT (kCy_c (kA_6 (a := a) (by omega) (by omega)))) (by omega))) (by omega) ?_
        refine e_Ok.run (t' := (39, [(0, (1, 17 * a + 86)), (1, (0, y1))], [(0, 0), (1, 17 * a + 93)], v1)) 1 rfl ?_
        refine e_Ok.callS rfl (by omega) rfl rfl (c_452_93z (a := a) j4 (by omega)) (fun r8 w9 h10 => ?_)
        obtain ⟨rfl, q11f, q11T, q11x⟩ := h10
        have f12 : e_fr (kAr a) w w9 := e_fr.trans j3 (e_fr.mono q11f (fun c k q => by unfold kF93 at q; unfold kAr; omega))
        show e_Ok 20 elay kcode eI (d + 1) 3 (42, [(0, (1, 17 * a + 86)), (1, (0, y1))], [], w9) _
        refine e_Ok.run (t' := (43, [(0, (1, 17 * a + 86)), (1, (0, y1))], [(1, 17 * a + 86)], w9)) 1 rfl ?_
        refine e_Ok.callV rfl (by omega) rfl (lA0 (a := a) (by omega) (by omega)) rfl rfl (c_17_z (a := a) q11T (by omega)) (fun r13 w14 h15 => ?_)
        obtain ⟨rfl, q16f, q16T, q16x⟩ := h15
        have f17 : e_fr (kAr a) w w14 := e_fr.trans f12 (e_fr.mono q16f (fun c k q => by unfold kSt at q; unfold kAr; omega))
        show e_Ok 20 elay kcode eI (d + 1) 3 (46, [(0, (1, 17 * a + 86)), (1, (0, y1))], [], w14) _
        refine e_Ok.run (t' := (48, [(0, (1, 17 * a + 86)), (1, (0, y1))], [(0, (-1)), (1, 17 * a + 86)], w14)) 2 rfl ?_
        refine e_Ok.putf rfl (lA0 (a := a) (by omega) (by omega)) rfl rfl ?_
        generalize hw18 : e_up w14 (17 * a + 86) 14 (-1) = w18
        have f19 : e_fr (kAr a) w w18 := e_fr.up f17 hw18 (by unfold kAr; omega)
        have hT20 : e_Has kCy w18 := e_Has.ups q16T hw18 (kCy_no2 (Or.inl (Or.inr (Or.inr (Or.inr (Or.inr (Or.inr (Or.inr (Or.inr (Or.inr (Or.inr (Or.inr (Or.inr (Or.inr (Or.inr (Or.inl (by omega)))))))))))))))) (kA_14 (a := a) (by omega) (by omega)) (by decide))
        refine e_Ok.run (t' := (53, [(0, (1, 17 * a + 86)), (1, (0, y1))], [(0, 0), (1, 17 * a + 86)], w18)) 2 rfl ?_
        refine e_Ok.putf rfl (lA0 (a := a) (by omega) (by omega)) rfl rfl ?_
        generalize hw21 : e_up w18 (17 * a + 86) 15 0 = w21
        have f22 : e_fr (kAr a) w w21 := e_fr.up f19 hw21 (by unfold kAr; omega)
        have hT23 : e_Has kCy w21 := e_Has.ups hT20 hw21 (kCy_no2 (Or.inl (Or.inr (Or.inr (Or.inr (Or.inr (Or.inr (Or.inr (Or.inr (Or.inr (Or.inr (Or.inr (Or.inr (Or.inr (Or.inr (Or.inl (by omega)))))))))))))))) (kA_15 (a := a) (by omega) (by omega)) (by decide))
        refine e_Ok.run (t' := (58, [(0, (1, 17 * a + 86)), (1, (0, y1))], [(0, (-1)), (1, 17 * a + 86)], w21)) 2 rfl ?_
        refine e_Ok.putf rfl (lA0 (a := a) (by omega) (by omega)) rfl rfl ?_
        generalize hw24 : e_up w21 (17 * a + 86) 16 (-1) = w24
        have f25 : e_fr (kAr a) w w24 := e_fr.up f22 hw24 (by unfold kAr; omega)
        have hT26 : e_Has kCy w24 := e_Has.ups hT23 hw24 (kCy_no2 (Or.inl (Or.inr (Or.inr (Or.inr (Or.inr (Or.inr (Or.inr (Or.inr (Or.inr (Or.inr (Or.inr (Or.inr (Or.inr (Or.inr (Or.inl (by omega)))))))))))))))) (kA_16 (a := a) (by omega) (by omega)) (by decide))
        refine e_Ok.run (t' := (63, [(0, (1, 17 * a + 86)), (1, (0, y1))], [(0, (-1)), (1, 17 * a + 86)], w24)) 2 rfl ?_
        refine e_Ok.putf rfl (lA0 (a := a) (by omega) (by omega)) rfl rfl ?_
        generalize hw27 : e_up w24 (17 * a + 86) 17 (-1) = w27
        have f28 : e_fr (kAr a) w w27 := e_fr.up f25 hw27 (by unfold kAr; omega)
        have hT29 : e_Has kCy w27 := e_Has.ups hT26 hw27 (kCy_no2 (Or.inl (Or.inr (Or.inr (Or.inr (Or.inr (Or.inr (Or.inr (Or.inr (Or.inr (Or.inr (Or.inr (Or.inr (Or.inr (Or.inr (Or.inl (by omega)))))))))))))))) (kA_17 (a := a) (by omega) (by omega)) (by decide))
        refine e_Ok.run (t' := (68, [(0, (1, 17 * a + 86)), (1, (0, y1))], [(0, 0), (1, 17 * a + 86)], w27)) 2 rfl ?_
        refine e_Ok.putf rfl (lA0 (a := a) (by omega) (by omega)) rfl rfl ?_
        generalize hw30 : e_up w27 (17 * a + 86) 19 0 = w30
        have f31 : e_fr (kAr a) w w30 := e_fr.up f28 hw30 (by unfold kAr; omega)
        have hT32 : e_Has kCy w30 := e_Has.ups hT29 hw30 (kCy_no2 (Or.inl (Or.inr (Or.inr (Or.inr (Or.inr (Or.inr (Or.inr (Or.inr (Or.inr (Or.inr (Or.inr (Or.inr (Or.inr (Or.inr (Or.inl (by omega)))))))))))))))) (kA_19 (a := a) (by omega) (by omega)) (by decide))
        have eS : ∀ c k, ¬ (c = 17 * a + 86 ∧ 14 ≤ k) → w30 c k = w14 c k := fun c k g => by rw [← hw30, e_up_ne _ _ (by omega), ← hw27, e_up_ne _ _ (by omega), ← hw24, e_up_ne _ _ (by omega), ← hw21, e_up_ne _ _ (by omega), ← hw18, e_up_ne _ _ (by omega)]
        have jv : ∀ j, 0 ≤ j → j < 6 → w30 (17 * a + j + 97) 7 = 0 ∧ w30 (17 * a + j + 97) 8 = 0 ∧ w30 (17 * a + j + 97) 9 = 0 := fun j g1 g2 => by
          have z := j5 j g1 (by omega)
          rw [eS _ _ (by omega), eS _ _ (by omega), eS _ _ (by omega), q16f _ 7 (by unfold kSt; omega), q16f _ 9 (by unfold kSt; omega), q11f _ _ (by unfold kF93; omega), q11f _ _ (by unfold kF93; omega)]
          exact ⟨z.1, q16x.2 j g1 g2, z.2⟩
        have vv : ∀ k, 0 ≤ k → k < 32 → w30 (17 * a + 93) k = 0 := fun k g1 g2 => by rw [eS _ _ (by omega), q16f _ _ (by unfold kSt; omega)]; exact q11x k g1 g2
        have a11 : w30 (17 * a + 86) 11 = 0 := by rw [eS _ _ (by omega)]; exact q16x.1.1
        have a13 : w30 (17 * a + 86) 13 = -1 := by rw [eS _ _ (by omega)]; exact q16x.1.2.1
        have a18 : w30 (17 * a + 86) 18 = -1 := by rw [← hw30, e_up_ne _ _ (by omega), ← hw27, e_up_ne _ _ (by omega), ← hw24, e_up_ne _ _ (by omega), ← hw21, e_up_ne _ _ (by omega), ← hw18, e_up_ne _ _ (by omega)]; exact q16x.1.2.2
        have a14 : w30 (17 * a + 86) 14 = (-1) := (by rw [← hw30]; exact (e_up_ne _ _ (Or.inr (by omega))).trans (by rw [← hw27]; exact (e_up_ne _ _ (Or.inr (by omega))).trans (by rw [← hw24]; exact (e_up_ne _ _ (Or.inr (by omega))).trans (by rw [← hw21]; exact (e_up_ne _ _ (Or.inr (by omega))).trans (by rw [← hw18]; exact e_up_eq _ _ _ _)))))
        have a15 : w30 (17 * a + 86) 15 = 0 := (by rw [← hw30]; exact (e_up_ne _ _ (Or.inr (by omega))).trans (by rw [← hw27]; exact (e_up_ne _ _ (Or.inr (by omega))).trans (by rw [← hw24]; exact (e_up_ne _ _ (Or.inr (by omega))).trans (by rw [← hw21]; exact e_up_eq _ _ _ _))))
        have a16 : w30 (17 * a + 86) 16 = (-1) := (by rw [← hw30]; exact (e_up_ne _ _ (Or.inr (by omega))).trans (by rw [← hw27]; exact (e_up_ne _ _ (Or.inr (by omega))).trans (by rw [← hw24]; exact e_up_eq _ _ _ _)))
        have a17 : w30 (17 * a + 86) 17 = (-1) := (by rw [← hw30]; exact (e_up_ne _ _ (Or.inr (by omega))).trans (by rw [← hw27]; exact e_up_eq _ _ _ _))
        have a19 : w30 (17 * a + 86) 19 = 0 := (by rw [← hw30]; exact e_up_eq _ _ _ _)
        refine e_Ok.run (t' := (72, [(0, (1, 17 * a + 86)), (1, (0, y1))], [(1, 17 * a + 86)], w30)) 1 rfl ?_
        refine e_Ok.callV rfl (by omega) rfl (lA0 (a := a) (by omega) (by omega)) rfl rfl (c_10_z (by omega) (a := a) hT32 (by omega) (by rw [f31 _ _ (by unfold kAr; omega)]; exact hx) (by rw [f31 _ _ (by unfold kAr; omega)]; exact hy) (fun j g1 g2 => by have g3 := kz_joints hT32 (a := a) (by omega); rw [(jv j g1 (by omega)).1]; unfold kn1; omega)) (fun r33 w34 h35 => ?_)
        obtain ⟨rfl, q36f, q36T, q36x⟩ := h35
        have f37 : e_fr (kAr a) w w34 := e_fr.trans f31 (e_fr.mono q36f (fun c k q => by unfold kPl at q; unfold kAr; omega))
        show e_Ok 20 elay kcode eI (d + 1) 3 (75, [(0, (1, 17 * a + 86)), (1, (0, y1))], [], w34) _
        refine e_Ok.run (t' := (76, [(0, (1, 17 * a + 86)), (1, (0, y1))], [(1, 17 * a + 86)], w34)) 1 rfl ?_
        refine e_Ok.callV rfl (by omega) rfl (lA0 (a := a) (by omega) (by omega)) rfl rfl (c_11_z (a := a) q36T (by omega) q36x) (fun r38 w40 h41 => ?_)
        obtain ⟨rfl, q42f, q42T, q42x⟩ := h41
        have f43 : e_fr (kAr a) w w40 := e_fr.trans f37 (e_fr.mono q42f (fun c k q => by unfold kOl at q; unfold kAr; omega))
        show e_Ok 20 elay kcode eI (d + 1) 3 (79, [(0, (1, 17 * a + 86)), (1, (0, y1))], [], w40) _
        refine e_Ok.rets rfl rfl ?_
        exact ⟨rfl, f43, q42T, ⟨⟨(by rw [q42f _ _ (by unfold kOl; omega), q36f _ _ (by unfold kPl; omega)]; exact a11), (by rw [q42f _ _ (by unfold kOl; omega), q36f _ _ (by unfold kPl; omega)]; exact a13), (by rw [q42f _ _ (by unfold kOl; omega), q36f _ _ (by unfold kPl; omega)]; exact a14), (by rw [q42f _ _ (by unfold kOl; omega), q36f _ _ (by unfold kPl; omega)]; exact a15), (by rw [q42f _ _ (by unfold kOl; omega), q36f _ _ (by unfold kPl; omega)]; exact a16), (by rw [q42f _ _ (by unfold kOl; omega), q36f _ _ (by unfold kPl; omega)]; exact a17), (by rw [q42f _ _ (by unfold kOl; omega), q36f _ _ (by unfold kPl; omega)]; exact a18), (by rw [q42f _ _ (by unfold kOl; omega), q36f _ _ (by unfold kPl; omega)]; exact a19)⟩, (fun j g1 g2 => by have z := jv j g1 g2; rw [q42f _ 7 (by unfold kOl; omega), q36f _ 7 (by unfold kPl; omega), q42f _ 8 (by unfold kOl; omega), q36f _ 8 (by unfold kPl; omega), q42f _ 9 (by unfold kOl; omega), q36f _ 9 (by unfold kPl; omega)]; exact z), (fun k g1 g2 => by rw [q42f _ _ (by unfold kOl; omega), q36f _ _ (by unfold kPl; omega)]; exact vv k g1 g2), q36x.eq (fun c k g => q42f c k (by unfold kOl; omega)), q42x⟩⟩
      · replace h7 : (y1 : Int) < 6 := by have q : ¬ ((y1 : Int) ≥ 6) := h7; omega
        refine e_Ok.run (t' := (9, [(0, (1, 17 * a + 86)), (1, (0, y1))], [(1, 17 * a + 86)], v1)) 1 rfl ?_
        refine e_Ok.getr (z := 17 * a + 87) rfl (lA0 (a := a) (by omega) (by omega)) rfl rfl ((j3 (17 * a + 86) 0 (by unfold kAr; omega)).trans (Eq.trans (e_Has.eq hT (kCy_c (kA_0 (a := a) (by omega) (by omega)))) (by omega))) (by omega) ?_
        refine e_Ok.run (t' := (13, [(0, (1, 17 * a + 86)), (1, (0, y1))], [(0, y1), (1, 17 * a + 87)], v1)) 1 rfl ?_
        refine e_Ok.aald (z := 17 * a + y1 + 97) rfl (lA1 (a := a) (by omega) (by omega)) rfl (by omega) ((j3 (17 * a + 87) y1 (by unfold kAr; omega)).trans (Eq.trans (e_Has.eq hT (kCy_c (kA87 (a := a) (by omega) (by omega) (by omega)))) (by omega))) (by omega) ?_
        refine e_Ok.run (t' := (15, [(0, (1, 17 * a + 86)), (1, (0, y1))], [(0, 0), (1, 17 * a + y1 + 97)], v1)) 1 rfl ?_
        refine e_Ok.putf rfl (lJ (a := a) (j := y1) (by omega) (by omega) (by omega)) rfl rfl ?_
        generalize hw44 : e_up v1 (17 * a + y1 + 97) 7 0 = w44
        have f45 : e_fr (kAr a) w w44 := e_fr.up j3 hw44 (by unfold kAr; omega)
        have hT46 : e_Has kCy w44 := e_Has.ups j4 hw44 (kCy_no2 (Or.inl (Or.inr (Or.inr (Or.inr (Or.inr (Or.inr (Or.inr (Or.inr (Or.inr (Or.inr (Or.inr (Or.inr (Or.inr (Or.inr (Or.inr (Or.inr (Or.inr ((by omega))))))))))))))))))) (kJ_7 (a := a) (j := y1) (by omega) (by omega) (by omega)) (by decide))
        refine e_Ok.run (t' := (19, [(0, (1, 17 * a + 86)), (1, (0, y1))], [(1, 17 * a + 86)], w44)) 1 rfl ?_
        refine e_Ok.getr (z := 17 * a + 87) rfl (lA0 (a := a) (by omega) (by omega)) rfl rfl (by rw [← hw44]; exact (e_up_ne _ _ (Or.inr (by omega))).trans ((j3 (17 * a + 86) 0 (by unfold kAr; omega)).trans (Eq.trans (e_Has.eq hT (kCy_c (kA_0 (a := a) (by omega) (by omega)))) (by omega)))) (by omega) ?_
        refine e_Ok.run (t' := (23, [(0, (1, 17 * a + 86)), (1, (0, y1))], [(0, y1), (1, 17 * a + 87)], w44)) 1 rfl ?_
        refine e_Ok.aald (z := 17 * a + y1 + 97) rfl (lA1 (a := a) (by omega) (by omega)) rfl (by omega) (by rw [← hw44]; exact (e_up_ne _ _ (Or.inl (by omega))).trans ((j3 (17 * a + 87) y1 (by unfold kAr; omega)).trans (Eq.trans (e_Has.eq hT (kCy_c (kA87 (a := a) (by omega) (by omega) (by omega)))) (by omega)))) (by omega) ?_
        refine e_Ok.run (t' := (25, [(0, (1, 17 * a + 86)), (1, (0, y1))], [(0, 0), (1, 17 * a + y1 + 97)], w44)) 1 rfl ?_
        refine e_Ok.putf rfl (lJ (a := a) (j := y1) (by omega) (by omega) (by omega)) rfl rfl ?_
        generalize hw47 : e_up w44 (17 * a + y1 + 97) 9 0 = w47
        have f48 : e_fr (kAr a) w w47 := e_fr.up f45 hw47 (by unfold kAr; omega)
        have hT49 : e_Has kCy w47 := e_Has.ups hT46 hw47 (kCy_no2 (Or.inl (Or.inr (Or.inr (Or.inr (Or.inr (Or.inr (Or.inr (Or.inr (Or.inr (Or.inr (Or.inr (Or.inr (Or.inr (Or.inr (Or.inr (Or.inr (Or.inr ((by omega))))))))))))))))))) (kJ_9 (a := a) (j := y1) (by omega) (by omega) (by omega)) (by decide))
        refine e_Ok.inc (z := y1 + 1) rfl rfl (by omega) (by omega) ?_
        show e_Ok 20 elay kcode eI (d + 1) 3 (31, [(1, (0, y1 + 1)), (0, (1, 17 * a + 86))], [], w47) _
        refine e_Ok.run (t' := (2, [(1, (0, y1 + 1)), (0, (1, 17 * a + 86))], [], w47)) 1 rfl ?_
        refine e_Ok.sub kAlk (e_sub_of rfl ?_) (ih2 (y1 + 1) w47 ⟨f48, hT49, (fun i g1 g2 => by by_cases e : i = y1; (rw [e]; exact ⟨(by rw [← hw47]; exact (e_up_ne _ _ (Or.inr (by omega))).trans (by rw [← hw44]; exact e_up_eq _ _ _ _)), (by rw [← hw47]; exact e_up_eq _ _ _ _)⟩); (have z := j5 i g1 (by omega); exact ⟨by rw [← hw47, e_up_ne _ _ (by omega), ← hw44, e_up_ne _ _ (by omega)]; exact z.1, by rw [← hw47, e_up_ne _ _ (by omega), ← hw44, e_up_ne _ _ (by omega)]; exact z.2⟩)), by omega⟩ (by omega))
        exact ⟨rfl, rfl, trivial⟩
  refine e_Ok.sub kAlk (e_sub_of rfl ?_) (hL1 (6 + 1 : Int).toNat 0 w ⟨(e_fr.refl w), hT, (fun i g1 g2 => by omega), by omega⟩ (by omega))
  exact ⟨rfl, rfl, trivial⟩
theorem c_452_93k {d : Nat} {w : eW} (hT : e_Has kTy w) {a : Int} (g_a : 0 ≤ a ∧ a ≤ 3) : e_Ok 20 elay kcode eI d 452 (0, [(0, (1, 17 * a + 93)), (1, (0, 0))], [], w) (fun r w' => r = [] ∧ e_fr (kF93 a) w w' ∧ e_Has kTy w' ∧ (∀ k, 0 ≤ k → k < 32 → w' (17 * a + 93) k = 0)) := by
  refine e_Ok.run (t' := (3, [(2, (0, 0)), (0, (1, 17 * a + 93)), (1, (0, 0))], [(1, 17 * a + 93)], w)) 3 rfl ?_
  refine e_Ok.alen rfl (lA7 (a := a) (by omega) (by omega)) rfl ?_
  refine e_Ok.run (t' := (5, [(3, (0, 32)), (2, (0, 0)), (0, (1, 17 * a + 93)), (1, (0, 0))], [], w)) 1 rfl ?_
  have hL1 : ∀ (nn : Nat) (y2 : Int) (v1 : eW), e_fr (kF93 a) w v1 ∧ e_Has kTy v1 ∧ (∀ i, 0 ≤ i → i < y2 → v1 (17 * a + 93) i = 0) ∧ (0 ≤ y2 ∧ y2 ≤ 32) → 32 - y2 < nn → e_Ok 20 elay kcode eI d 452 (5, [(0, (1, 17 * a + 93)), (1, (0, 0)), (2, (0, y2)), (3, (0, 32))], [], v1) (fun r w' => r = [] ∧ e_fr (kF93 a) w w' ∧ e_Has kTy w' ∧ (∀ k, 0 ≤ k → k < 32 → w' (17 * a + 93) k = 0)) := by
    intro nn
    induction nn with
    | zero => intro y2 v1 hj hm; obtain ⟨j3, j4, j5, j6⟩ := hj; exfalso; omega
    | succ nn ih2 =>
      intro y2 v1 hj hm
      obtain ⟨j3, j4, j5, j6⟩ := hj
      refine e_Ok.run (t' := (7, [(0, (1, 17 * a + 93)), (1, (0, 0)), (2, (0, y2)), (3, (0, 32))], [(0, 32), (0, y2)], v1)) 2 rfl ?_
      refine e_Ok.if2 rfl (fun h7 => ?_) (fun h7 => ?_)
      · replace h7 : (y2 : Int) ≥ 32 := h7
        refine e_Ok.rets rfl rfl ?_
        exact ⟨rfl, j3, j4, fun k g1 g2 => j5 k g1 (by omega)⟩
      · replace h7 : (y2 : Int) < 32 := by have q : ¬ ((y2 : Int) ≥ 32) := h7; omega
        refine e_Ok.run (t' := (13, [(0, (1, 17 * a + 93)), (1, (0, 0)), (2, (0, y2)), (3, (0, 32))], [(0, 0), (0, y2), (1, 17 * a + 93)], v1)) 3 rfl ?_
        refine e_Ok.ast rfl (lA7 (a := a) (by omega) (by omega)) rfl rfl (by omega) ?_
        generalize hw8 : e_up v1 (17 * a + 93) y2 0 = w8
        have f9 : e_fr (kF93 a) w w8 := e_fr.up j3 hw8 (by unfold kF93; omega)
        have hT10 : e_Has kTy w8 := e_Has.upr j4 hw8 (kA93 (a := a) _ (by omega) (by omega)) (by omega)
        refine e_Ok.inc (z := y2 + 1) rfl rfl (by omega) (by omega) ?_
        show e_Ok 20 elay kcode eI d 452 (17, [(2, (0, y2 + 1)), (0, (1, 17 * a + 93)), (1, (0, 0)), (3, (0, 32))], [], w8) _
        refine e_Ok.run (t' := (5, [(2, (0, y2 + 1)), (0, (1, 17 * a + 93)), (1, (0, 0)), (3, (0, 32))], [], w8)) 1 rfl ?_
        refine e_Ok.sub kAlk (e_sub_of rfl ?_) (ih2 (y2 + 1) w8 ⟨f9, hT10, (fun i g1 g2 => by rw [← hw8]; by_cases e : i = y2; (rw [e, e_up_eq]); (rw [e_up_ne _ _ (Or.inr e)]; exact j5 i g1 (by omega))), by omega⟩ (by omega))
        exact ⟨rfl, rfl, rfl, rfl, trivial⟩
  refine e_Ok.sub kAlk (e_sub_of rfl ?_) (hL1 (32 + 1 : Int).toNat 0 w ⟨(e_fr.refl w), hT, (fun i g1 g2 => by omega), by omega⟩ (by omega))
  exact ⟨rfl, rfl, rfl, rfl, trivial⟩
theorem c_17_k {d : Nat} {w : eW} (hT : e_Has kTy w) {a : Int} (g_a : 0 ≤ a ∧ a ≤ 3) : e_Ok 20 elay kcode eI d 17 (0, [(0, (1, 17 * a + 86))], [], w) (fun r w' => r = [] ∧ e_fr (kSt a) w w' ∧ e_Has kTy w' ∧ (w' (17 * a + 86) 11 = 0 ∧ w' (17 * a + 86) 13 = -1 ∧ w' (17 * a + 86) 18 = -1) ∧ ∀ i, 0 ≤ i → i < 6 → w' (17 * a + i + 97) 8 = 0) := by
  refine e_Ok.run (t' := (2, [(0, (1, 17 * a + 86))], [(0, 0), (1, 17 * a + 86)], w)) 2 rfl ?_
  refine e_Ok.putf rfl (lA0 (a := a) (by omega) (by omega)) rfl rfl ?_
  generalize hw1 : e_up w (17 * a + 86) 11 0 = w1
  have f2 : e_fr (kSt a) w w1 := e_fr.up (e_fr.refl w) hw1 (by unfold kSt; omega)
  have hT3 : e_Has kTy w1 := e_Has.upr hT hw1 (kA_11 (a := a) (by omega) (by omega)) (by omega)
  refine e_Ok.run (t' := (7, [(0, (1, 17 * a + 86))], [(0, (-1)), (1, 17 * a + 86)], w1)) 2 rfl ?_
  refine e_Ok.putf rfl (lA0 (a := a) (by omega) (by omega)) rfl rfl ?_
  generalize hw4 : e_up w1 (17 * a + 86) 13 (-1) = w4
  have f5 : e_fr (kSt a) w w4 := e_fr.up f2 hw4 (by unfold kSt; omega)
  have hT6 : e_Has kTy w4 := e_Has.upr hT3 hw4 (kA_13 (a := a) (by omega) (by omega)) (by omega)
  refine e_Ok.run (t' := (12, [(0, (1, 17 * a + 86))], [(0, (-1)), (1, 17 * a + 86)], w4)) 2 rfl ?_
  refine e_Ok.putf rfl (lA0 (a := a) (by omega) (by omega)) rfl rfl ?_
  generalize hw7 : e_up w4 (17 * a + 86) 18 (-1) = w7
  have f8 : e_fr (kSt a) w w7 := e_fr.up f5 hw7 (by unfold kSt; omega)
  have hT9 : e_Has kTy w7 := e_Has.upr hT6 hw7 (kA_18 (a := a) (by omega) (by omega)) (by omega)
  refine e_Ok.run (t' := (17, [(1, (0, 0)), (0, (1, 17 * a + 86))], [], w7)) 2 rfl ?_
  have hL10 : ∀ (nn : Nat) (y1 : Int) (v1 : eW), e_fr (kSt a) w v1 ∧ e_Has kTy v1 ∧ (∀ i, 0 ≤ i → i < y1 → v1 (17 * a + i + 97) 8 = 0) ∧ v1 (17 * a + 86) 11 = 0 ∧ v1 (17 * a + 86) 13 = -1 ∧ v1 (17 * a + 86) 18 = -1 ∧ (0 ≤ y1 ∧ y1 ≤ 6) → 6 - y1 < nn → e_Ok 20 elay kcode eI d 17 (17, [(0, (1, 17 * a + 86)), (1, (0, y1))], [], v1) (fun r w' => r = [] ∧ e_fr (kSt a) w w' ∧ e_Has kTy w' ∧ (w' (17 * a + 86) 11 = 0 ∧ w' (17 * a + 86) 13 = -1 ∧ w' (17 * a + 86) 18 = -1) ∧ ∀ i, 0 ≤ i → i < 6 → w' (17 * a + i + 97) 8 = 0) := by
    intro nn
    induction nn with
    | zero => intro y1 v1 hj hm; obtain ⟨j12, j13, j14, j15, j16, j17, j18⟩ := hj; exfalso; omega
    | succ nn ih11 =>
      intro y1 v1 hj hm
      obtain ⟨j12, j13, j14, j15, j16, j17, j18⟩ := hj
      refine e_Ok.run (t' := (20, [(0, (1, 17 * a + 86)), (1, (0, y1))], [(0, 6), (0, y1)], v1)) 2 rfl ?_
      refine e_Ok.if2 rfl (fun h19 => ?_) (fun h19 => ?_)
      · replace h19 : (y1 : Int) ≥ 6 := h19
        refine e_Ok.rets rfl rfl ?_
        exact ⟨rfl, j12, j13, ⟨⟨j15, j16, j17⟩, fun i g1 g2 => j14 i g1 (by omega)⟩⟩
      · replace h19 : (y1 : Int) < 6 := by have q : ¬ ((y1 : Int) ≥ 6) := h19; omega
        refine e_Ok.run (t' := (24, [(0, (1, 17 * a + 86)), (1, (0, y1))], [(1, 17 * a + 86)], v1)) 1 rfl ?_
        refine e_Ok.getr (z := 17 * a + 87) rfl (lA0 (a := a) (by omega) (by omega)) rfl rfl ((j12 (17 * a + 86) 0 (by unfold kSt; omega)).trans (Eq.trans (e_Has.eq hT (kA_0 (a := a) (by omega) (by omega))) (by omega))) (by omega) ?_
        refine e_Ok.run (t' := (28, [(0, (1, 17 * a + 86)), (1, (0, y1))], [(0, y1), (1, 17 * a + 87)], v1)) 1 rfl ?_
        refine e_Ok.aald (z := 17 * a + y1 + 97) rfl (lA1 (a := a) (by omega) (by omega)) rfl (by omega) ((j12 (17 * a + 87) y1 (by unfold kSt; omega)).trans (Eq.trans (e_Has.eq hT (kA87 (a := a) (by omega) (by omega) (by omega))) (by omega))) (by omega) ?_
        refine e_Ok.run (t' := (30, [(0, (1, 17 * a + 86)), (1, (0, y1))], [(0, 0), (1, 17 * a + y1 + 97)], v1)) 1 rfl ?_
        refine e_Ok.putf rfl (lJ (a := a) (j := y1) (by omega) (by omega) (by omega)) rfl rfl ?_
        generalize hw20 : e_up v1 (17 * a + y1 + 97) 8 0 = w20
        have f21 : e_fr (kSt a) w w20 := e_fr.up j12 hw20 (by unfold kSt; omega)
        have hT22 : e_Has kTy w20 := e_Has.upr j13 hw20 (kJ_8 (a := a) (j := y1) (by omega) (by omega) (by omega)) (by omega)
        refine e_Ok.inc (z := y1 + 1) rfl rfl (by omega) (by omega) ?_
        show e_Ok 20 elay kcode eI d 17 (36, [(1, (0, y1 + 1)), (0, (1, 17 * a + 86))], [], w20) _
        refine e_Ok.run (t' := (17, [(1, (0, y1 + 1)), (0, (1, 17 * a + 86))], [], w20)) 1 rfl ?_
        refine e_Ok.sub kAlk (e_sub_of rfl ?_) (ih11 (y1 + 1) w20 ⟨f21, hT22, (fun i g1 g2 => by rw [← hw20]; by_cases e : i = y1; (rw [e]; exact e_up_eq _ _ _ _); (rw [e_up_ne _ _ (Or.inl (by omega))]; exact j14 i g1 (by omega))), (by rw [← hw20]; exact (e_up_ne _ _ (Or.inl (by omega))).trans j15), (by rw [← hw20]; exact (e_up_ne _ _ (Or.inl (by omega))).trans j16), (by rw [← hw20]; exact (e_up_ne _ _ (Or.inl (by omega))).trans j17), by omega⟩ (by omega))
        exact ⟨rfl, rfl, trivial⟩
  refine e_Ok.sub kAlk (e_sub_of rfl ?_) (hL10 (6 + 1 : Int).toNat 0 w7 ⟨f8, hT9, (fun i g1 g2 => by omega), (by rw [← hw7]; exact (e_up_ne _ _ (Or.inr (by omega))).trans (by rw [← hw4]; exact (e_up_ne _ _ (Or.inr (by omega))).trans (by rw [← hw1]; exact e_up_eq _ _ _ _))), (by rw [← hw7]; exact (e_up_ne _ _ (Or.inr (by omega))).trans (by rw [← hw4]; exact e_up_eq _ _ _ _)), (by rw [← hw7]; exact e_up_eq _ _ _ _), by omega⟩ (by omega))
  exact ⟨rfl, rfl, trivial⟩
theorem c_11_k {d : Nat} {w : eW} (hT : e_Has kTy w) {a : Int} (g_a : 0 ≤ a ∧ a ≤ 3) (kx : aK w a) : e_Ok 20 elay kcode eI d 11 (0, [(0, (1, 17 * a + 86))], [], w) (fun r w' => r = [] ∧ e_fr (kOl a) w w' ∧ e_Has kTy w' ∧ oK w' a) := by
  have hjn := kn_joints hT (a := a) (by omega)
  refine e_Ok.run (t' := (2, [(1, (0, 0)), (0, (1, 17 * a + 86))], [], w)) 2 rfl ?_
  have hL1 : ∀ (nn : Nat) (y1 : Int) (v1 : eW), e_fr (kOl a) w v1 ∧ e_Has kTy v1 ∧ e_kn v1 (17 * a + 90) 0 (y1 - 1) ∧ e_kn v1 (17 * a + 91) 0 (y1 - 1) ∧ y1 ≤ w (17 * a + 86) 8 + 1 ∧ (0 ≤ y1 ∧ y1 ≤ 7) → 7 - y1 < nn → e_Ok 20 elay kcode eI d 11 (2, [(0, (1, 17 * a + 86)), (1, (0, y1))], [], v1) (fun r w' => r = [] ∧ e_fr (kOl a) w w' ∧ e_Has kTy w' ∧ oK w' a) := by
    intro nn
    induction nn with
    | zero => intro y1 v1 hj hm; obtain ⟨j3, j4, j5, j6, j7, j8⟩ := hj; exfalso; omega
    | succ nn ih2 =>
      intro y1 v1 hj hm
      obtain ⟨j3, j4, j5, j6, j7, j8⟩ := hj
      have l9 : v1 (17 * a + 86) 8 = w (17 * a + 86) 8 := j3 (17 * a + 86) 8 (by unfold kOl; omega)
      refine e_Ok.run (t' := (4, [(0, (1, 17 * a + 86)), (1, (0, y1))], [(1, 17 * a + 86), (0, y1)], v1)) 2 rfl ?_
      have h10 := (e_Has.get hT (c := 17 * a + 86) (k := 8) (lo := 0) (hi := 6) (kA_8 (a := a) (by omega) (by omega)) (by decide))
      refine e_Ok.getf (z := w (17 * a + 86) 8) rfl (lA0 (a := a) (by omega) (by omega)) rfl rfl ((j3 (17 * a + 86) 8 (by unfold kOl; omega)).trans rfl) (by omega) ?_
      refine e_Ok.if2 rfl (fun h11 => ?_) (fun h11 => ?_)
      · replace h11 : (y1 : Int) > w (17 * a + 86) 8 := h11
        refine e_Ok.rets rfl rfl ?_
        exact ⟨rfl, j3, j4, (by unfold oK; rw [(show v1 (17 * a + 86) 8 = w (17 * a + 86) 8 from j3 _ _ (by unfold kOl; omega))]; exact ⟨e_kn_sub j5 (by omega) (by omega), e_kn_sub j6 (by omega) (by omega)⟩)⟩
      · replace h11 : (y1 : Int) ≤ w (17 * a + 86) 8 := by have q : ¬ ((y1 : Int) > w (17 * a + 86) 8) := h11; omega
        refine e_Ok.run (t' := (11, [(0, (1, 17 * a + 86)), (1, (0, y1))], [(1, 17 * a + 86)], v1)) 1 rfl ?_
        refine e_Ok.getr (z := 17 * a + 90) rfl (lA0 (a := a) (by omega) (by omega)) rfl rfl ((j3 (17 * a + 86) 3 (by unfold kOl; omega)).trans (Eq.trans (e_Has.eq hT (kA_3 (a := a) (by omega) (by omega))) (by omega))) (by omega) ?_
        refine e_Ok.run (t' := (16, [(0, (1, 17 * a + 86)), (1, (0, y1))], [(1, 17 * a + 86), (0, y1), (1, 17 * a + 90)], v1)) 2 rfl ?_
        refine e_Ok.getr (z := 17 * a + 88) rfl (lA0 (a := a) (by omega) (by omega)) rfl rfl ((j3 (17 * a + 86) 1 (by unfold kOl; omega)).trans (Eq.trans (e_Has.eq hT (kA_1 (a := a) (by omega) (by omega))) (by omega))) (by omega) ?_
        refine e_Ok.run (t' := (20, [(0, (1, 17 * a + 86)), (1, (0, y1))], [(0, y1), (1, 17 * a + 88), (0, y1), (1, 17 * a + 90)], v1)) 1 rfl ?_
        have h12 := (kx.1 y1 (by omega) (by omega))
        refine e_Ok.ald (z := w (17 * a + 88) y1) rfl (lA2 (a := a) (by omega) (by omega)) rfl (by omega) ((j3 (17 * a + 88) y1 (by unfold kOl; omega)).trans rfl) (by omega) ?_
        refine e_Ok.ast rfl (lA4 (a := a) (by omega) (by omega)) rfl rfl (by omega) ?_
        generalize hw13 : e_up v1 (17 * a + 90) y1 (w (17 * a + 88) y1) = w13
        have f14 : e_fr (kOl a) w w13 := e_fr.up j3 hw13 (by unfold kOl; omega)
        have l15 : w13 (17 * a + 86) 8 = w (17 * a + 86) 8 := f14 (17 * a + 86) 8 (by unfold kOl; omega)
        have hT16 : e_Has kTy w13 := e_Has.ups j4 hw13 (kA90 (a := a) _ (by omega) (by omega))
        refine e_Ok.run (t' := (23, [(0, (1, 17 * a + 86)), (1, (0, y1))], [(1, 17 * a + 86)], w13)) 1 rfl ?_
        refine e_Ok.getr (z := 17 * a + 91) rfl (lA0 (a := a) (by omega) (by omega)) rfl rfl (by rw [← hw13]; exact (e_up_ne _ _ (Or.inl (by omega))).trans ((j3 (17 * a + 86) 4 (by unfold kOl; omega)).trans (Eq.trans (e_Has.eq hT (kA_4 (a := a) (by omega) (by omega))) (by omega)))) (by omega) ?_
        refine e_Ok.run (t' := (28, [(0, (1, 17 * a + 86)), (1, (0, y1))], [(1, 17 * a + 86), (0, y1), (1, 17 * a + 91)], w13)) 2 rfl ?_
        refine e_Ok.getr (z := 17 * a + 89) rfl (lA0 (a := a) (by omega) (by omega)) rfl rfl (by rw [← hw13]; exact (e_up_ne _ _ (Or.inl (by omega))).trans ((j3 (17 * a + 86) 2 (by unfold kOl; omega)).trans (Eq.trans (e_Has.eq hT (kA_2 (a := a) (by omega) (by omega))) (by omega)))) (by omega) ?_
        refine e_Ok.run (t' := (32, [(0, (1, 17 * a + 86)), (1, (0, y1))], [(0, y1), (1, 17 * a + 89), (0, y1), (1, 17 * a + 91)], w13)) 1 rfl ?_
        have h17 := (kx.2 y1 (by omega) (by omega))
        refine e_Ok.ald (z := w (17 * a + 89) y1) rfl (lA3 (a := a) (by omega) (by omega)) rfl (by omega) (by rw [← hw13]; exact (e_up_ne _ _ (Or.inl (by omega))).trans ((j3 (17 * a + 89) y1 (by unfold kOl; omega)).trans rfl)) (by omega) ?_
        refine e_Ok.ast rfl (lA5 (a := a) (by omega) (by omega)) rfl rfl (by omega) ?_
        generalize hw18 : e_up w13 (17 * a + 91) y1 (w (17 * a + 89) y1) = w18
        have f19 : e_fr (kOl a) w w18 := e_fr.up f14 hw18 (by unfold kOl; omega)
        have l20 : w18 (17 * a + 86) 8 = w (17 * a + 86) 8 := f19 (17 * a + 86) 8 (by unfold kOl; omega)
        have hT21 : e_Has kTy w18 := e_Has.ups hT16 hw18 (kA91 (a := a) _ (by omega) (by omega))
        refine e_Ok.inc (z := y1 + 1) rfl rfl (by omega) (by omega) ?_
        show e_Ok 20 elay kcode eI d 11 (37, [(1, (0, y1 + 1)), (0, (1, 17 * a + 86))], [], w18) _
        refine e_Ok.run (t' := (2, [(1, (0, y1 + 1)), (0, (1, 17 * a + 86))], [], w18)) 1 rfl ?_
        refine e_Ok.sub kAlk (e_sub_of rfl ?_) (ih2 (y1 + 1) w18 ⟨f19, hT21, (e_kn_sub (e_kn.oth (e_kn.ext j5 hw13 (by omega) (by omega)) hw18 (by omega)) (by omega) (by omega)), (e_kn_sub (e_kn.ext (e_kn.oth j6 hw13 (by omega)) hw18 (by omega) (by omega)) (by omega) (by omega)), by omega, by omega⟩ (by omega))
        exact ⟨rfl, rfl, trivial⟩
  refine e_Ok.sub kAlk (e_sub_of rfl ?_) (hL1 (7 + 1 : Int).toNat 0 w ⟨(e_fr.refl w), hT, (fun i g1 g2 => by omega), (fun i g1 g2 => by omega), by omega, by omega⟩ (by omega))
  exact ⟨rfl, rfl, trivial⟩
set_option maxHeartbeats 4000000 in
theorem c_3_k {d : Nat} (hd : 24 ≤ d) {w : eW} (hT : e_Has kTy w) {a : Int} (ga : 0 ≤ a ∧ a ≤ 3) (hx : kn1 (w (17 * a + 88) 0)) (hy : kn1 (w (17 * a + 89) 0)) : e_Ok 20 elay kcode eI d 3 (0, [(0, (1, 17 * a + 86))], [], w) (fun r w' => r = [] ∧ e_fr (kAr a) w w' ∧ e_Has kTy w' ∧ aR0 w' a ∧ aP w' a) := by
  obtain ⟨d, rfl⟩ : ∃ e, d = e + 1 := ⟨d - 1, by omega⟩
  refine e_Ok.run (t' := (2, [(1, (0, 0)), (0, (1, 17 * a + 86))], [], w)) 2 rfl ?_
  have hL1 : ∀ (nn : Nat) (y1 : Int) (v1 : eW), e_fr (kAr a) w v1 ∧ e_Has kTy v1 ∧ (∀ i, 0 ≤ i → i < y1 → v1 (17 * a + i + 97) 7 = 0 ∧ v1 (17 * a + i + 97) 9 = 0) ∧ (0 ≤ y1 ∧ y1 ≤ 6) → 6 - y1 < nn → e_Ok 20 elay kcode eI (d + 1) 3 (2, [(0, (1, 17 * a + 86)), (1, (0, y1))], [], v1) (fun r w' => r = [] ∧ e_fr (kAr a) w w' ∧ e_Has kTy w' ∧ aR0 w' a ∧ aP w' a) := by
    intro nn
    induction nn with
    | zero => intro y1 v1 hj hm; obtain ⟨j3, j4, j5, j6⟩ := hj; exfalso; omega
    | succ nn ih2 =>
      intro y1 v1 hj hm
      obtain ⟨j3, j4, j5, j6⟩ := hj
      refine e_Ok.run (t' := (5, [(0, (1, 17 * a + 86)), (1, (0, y1))], [(0, 6), (0, y1)], v1)) 2 rfl ?_
      refine e_Ok.if2 rfl (fun h7 => ?_) (fun h7 => ?_)
      · replace h7 : (y1 : Int) ≥ 6 := h7
        refine e_Ok.run (t' := (35, [(0, (1, 17 * a + 86)), (1, (0, y1))], [(1, 17 * a + 86)], v1)) 1 rfl ?_
        refine e_Ok.getr (z := 17 * a + 93) rfl (lA0 (a := a) (by omega) (by omega)) rfl rfl ((j3 (17 * a + 86) 6 (by unfold kAr; omega)).trans (Eq.trans (e_Has.eq hT (kA_6 (a := a) (by omega) (by omega))) (by omega))) (by omega) ?_
        refine e_Ok.run (t' := (39, [(0, (1, 17 * a + 86)), (1, (0, y1))], [(0, 0), (1, 17 * a + 93)], v1)) 1 rfl ?_
        refine e_Ok.callS rfl (by omega) rfl rfl (c_452_93k (a := a) j4 (by omega)) (fun r8 w9 h10 => ?_)
        obtain ⟨rfl, q11f, q11T, q11x⟩ := h10
        have f12 : e_fr (kAr a) w w9 := e_fr.trans j3 (e_fr.mono q11f (fun c k q => by unfold kF93 at q; unfold kAr; omega))
        show e_Ok 20 elay kcode eI (d + 1) 3 (42, [(0, (1, 17 * a + 86)), (1, (0, y1))], [], w9) _
        refine e_Ok.run (t' := (43, [(0, (1, 17 * a + 86)), (1, (0, y1))], [(1, 17 * a + 86)], w9)) 1 rfl ?_
        refine e_Ok.callV rfl (by omega) rfl (lA0 (a := a) (by omega) (by omega)) rfl rfl (c_17_k (a := a) q11T (by omega)) (fun r13 w14 h15 => ?_)
        obtain ⟨rfl, q16f, q16T, q16x⟩ := h15
        have f17 : e_fr (kAr a) w w14 := e_fr.trans f12 (e_fr.mono q16f (fun c k q => by unfold kSt at q; unfold kAr; omega))
        show e_Ok 20 elay kcode eI (d + 1) 3 (46, [(0, (1, 17 * a + 86)), (1, (0, y1))], [], w14) _
        refine e_Ok.run (t' := (48, [(0, (1, 17 * a + 86)), (1, (0, y1))], [(0, (-1)), (1, 17 * a + 86)], w14)) 2 rfl ?_
        refine e_Ok.putf rfl (lA0 (a := a) (by omega) (by omega)) rfl rfl ?_
        generalize hw18 : e_up w14 (17 * a + 86) 14 (-1) = w18
        have f19 : e_fr (kAr a) w w18 := e_fr.up f17 hw18 (by unfold kAr; omega)
        have hT20 : e_Has kTy w18 := e_Has.upr q16T hw18 (kA_14 (a := a) (by omega) (by omega)) (by omega)
        refine e_Ok.run (t' := (53, [(0, (1, 17 * a + 86)), (1, (0, y1))], [(0, 0), (1, 17 * a + 86)], w18)) 2 rfl ?_
        refine e_Ok.putf rfl (lA0 (a := a) (by omega) (by omega)) rfl rfl ?_
        generalize hw21 : e_up w18 (17 * a + 86) 15 0 = w21
        have f22 : e_fr (kAr a) w w21 := e_fr.up f19 hw21 (by unfold kAr; omega)
        have hT23 : e_Has kTy w21 := e_Has.upr hT20 hw21 (kA_15 (a := a) (by omega) (by omega)) (by omega)
        refine e_Ok.run (t' := (58, [(0, (1, 17 * a + 86)), (1, (0, y1))], [(0, (-1)), (1, 17 * a + 86)], w21)) 2 rfl ?_
        refine e_Ok.putf rfl (lA0 (a := a) (by omega) (by omega)) rfl rfl ?_
        generalize hw24 : e_up w21 (17 * a + 86) 16 (-1) = w24
        have f25 : e_fr (kAr a) w w24 := e_fr.up f22 hw24 (by unfold kAr; omega)
        have hT26 : e_Has kTy w24 := e_Has.upr hT23 hw24 (kA_16 (a := a) (by omega) (by omega)) (by omega)
        refine e_Ok.run (t' := (63, [(0, (1, 17 * a + 86)), (1, (0, y1))], [(0, (-1)), (1, 17 * a + 86)], w24)) 2 rfl ?_
        refine e_Ok.putf rfl (lA0 (a := a) (by omega) (by omega)) rfl rfl ?_
        generalize hw27 : e_up w24 (17 * a + 86) 17 (-1) = w27
        have f28 : e_fr (kAr a) w w27 := e_fr.up f25 hw27 (by unfold kAr; omega)
        have hT29 : e_Has kTy w27 := e_Has.upr hT26 hw27 (kA_17 (a := a) (by omega) (by omega)) (by omega)
        refine e_Ok.run (t' := (68, [(0, (1, 17 * a + 86)), (1, (0, y1))], [(0, 0), (1, 17 * a + 86)], w27)) 2 rfl ?_
        refine e_Ok.putf rfl (lA0 (a := a) (by omega) (by omega)) rfl rfl ?_
        generalize hw30 : e_up w27 (17 * a + 86) 19 0 = w30
        have f31 : e_fr (kAr a) w w30 := e_fr.up f28 hw30 (by unfold kAr; omega)
        have hT32 : e_Has kTy w30 := e_Has.upr hT29 hw30 (kA_19 (a := a) (by omega) (by omega)) (by omega)
        have eS : ∀ c k, ¬ (c = 17 * a + 86 ∧ 14 ≤ k) → w30 c k = w14 c k := fun c k g => by rw [← hw30, e_up_ne _ _ (by omega), ← hw27, e_up_ne _ _ (by omega), ← hw24, e_up_ne _ _ (by omega), ← hw21, e_up_ne _ _ (by omega), ← hw18, e_up_ne _ _ (by omega)]
        have jv : ∀ j, 0 ≤ j → j < 6 → w30 (17 * a + j + 97) 7 = 0 ∧ w30 (17 * a + j + 97) 8 = 0 ∧ w30 (17 * a + j + 97) 9 = 0 := fun j g1 g2 => by
          have z := j5 j g1 (by omega)
          rw [eS _ _ (by omega), eS _ _ (by omega), eS _ _ (by omega), q16f _ 7 (by unfold kSt; omega), q16f _ 9 (by unfold kSt; omega), q11f _ _ (by unfold kF93; omega), q11f _ _ (by unfold kF93; omega)]
          exact ⟨z.1, q16x.2 j g1 g2, z.2⟩
        have vv : ∀ k, 0 ≤ k → k < 32 → w30 (17 * a + 93) k = 0 := fun k g1 g2 => by rw [eS _ _ (by omega), q16f _ _ (by unfold kSt; omega)]; exact q11x k g1 g2
        have a11 : w30 (17 * a + 86) 11 = 0 := by rw [eS _ _ (by omega)]; exact q16x.1.1
        have a13 : w30 (17 * a + 86) 13 = -1 := by rw [eS _ _ (by omega)]; exact q16x.1.2.1
        have a18 : w30 (17 * a + 86) 18 = -1 := by rw [← hw30, e_up_ne _ _ (by omega), ← hw27, e_up_ne _ _ (by omega), ← hw24, e_up_ne _ _ (by omega), ← hw21, e_up_ne _ _ (by omega), ← hw18, e_up_ne _ _ (by omega)]; exact q16x.1.2.2
        have a14 : w30 (17 * a + 86) 14 = (-1) := (by rw [← hw30]; exact (e_up_ne _ _ (Or.inr (by omega))).trans (by rw [← hw27]; exact (e_up_ne _ _ (Or.inr (by omega))).trans (by rw [← hw24]; exact (e_up_ne _ _ (Or.inr (by omega))).trans (by rw [← hw21]; exact (e_up_ne _ _ (Or.inr (by omega))).trans (by rw [← hw18]; exact e_up_eq _ _ _ _)))))
        have a15 : w30 (17 * a + 86) 15 = 0 := (by rw [← hw30]; exact (e_up_ne _ _ (Or.inr (by omega))).trans (by rw [← hw27]; exact (e_up_ne _ _ (Or.inr (by omega))).trans (by rw [← hw24]; exact (e_up_ne _ _ (Or.inr (by omega))).trans (by rw [← hw21]; exact e_up_eq _ _ _ _))))
        have a16 : w30 (17 * a + 86) 16 = (-1) := (by rw [← hw30]; exact (e_up_ne _ _ (Or.inr (by omega))).trans (by rw [← hw27]; exact (e_up_ne _ _ (Or.inr (by omega))).trans (by rw [← hw24]; exact e_up_eq _ _ _ _)))
        have a17 : w30 (17 * a + 86) 17 = (-1) := (by rw [← hw30]; exact (e_up_ne _ _ (Or.inr (by omega))).trans (by rw [← hw27]; exact e_up_eq _ _ _ _))
        have a19 : w30 (17 * a + 86) 19 = 0 := (by rw [← hw30]; exact e_up_eq _ _ _ _)
        refine e_Ok.run (t' := (72, [(0, (1, 17 * a + 86)), (1, (0, y1))], [(1, 17 * a + 86)], w30)) 1 rfl ?_
        refine e_Ok.callV rfl (by omega) rfl (lA0 (a := a) (by omega) (by omega)) rfl rfl (c_10_p (by omega) (a := a) hT32 (by omega) (by rw [f31 _ _ (by unfold kAr; omega)]; exact hx) (by rw [f31 _ _ (by unfold kAr; omega)]; exact hy)) (fun r33 w34 h35 => ?_)
        obtain ⟨rfl, q36f, q36T, q36x, q36p⟩ := h35
        have f37 : e_fr (kAr a) w w34 := e_fr.trans f31 (e_fr.mono q36f (fun c k q => by unfold kPl at q; unfold kAr; omega))
        show e_Ok 20 elay kcode eI (d + 1) 3 (75, [(0, (1, 17 * a + 86)), (1, (0, y1))], [], w34) _
        refine e_Ok.run (t' := (76, [(0, (1, 17 * a + 86)), (1, (0, y1))], [(1, 17 * a + 86)], w34)) 1 rfl ?_
        refine e_Ok.callV rfl (by omega) rfl (lA0 (a := a) (by omega) (by omega)) rfl rfl (c_11_k (a := a) q36T (by omega) q36x) (fun r38 w40 h41 => ?_)
        obtain ⟨rfl, q42f, q42T, q42x⟩ := h41
        have f43 : e_fr (kAr a) w w40 := e_fr.trans f37 (e_fr.mono q42f (fun c k q => by unfold kOl at q; unfold kAr; omega))
        show e_Ok 20 elay kcode eI (d + 1) 3 (79, [(0, (1, 17 * a + 86)), (1, (0, y1))], [], w40) _
        refine e_Ok.rets rfl rfl ?_
        exact ⟨rfl, f43, q42T, ⟨⟨(by rw [q42f _ _ (by unfold kOl; omega), q36f _ _ (by unfold kPl; omega)]; exact a11), (by rw [q42f _ _ (by unfold kOl; omega), q36f _ _ (by unfold kPl; omega)]; exact a13), (by rw [q42f _ _ (by unfold kOl; omega), q36f _ _ (by unfold kPl; omega)]; exact a14), (by rw [q42f _ _ (by unfold kOl; omega), q36f _ _ (by unfold kPl; omega)]; exact a15), (by rw [q42f _ _ (by unfold kOl; omega), q36f _ _ (by unfold kPl; omega)]; exact a16), (by rw [q42f _ _ (by unfold kOl; omega), q36f _ _ (by unfold kPl; omega)]; exact a17), (by rw [q42f _ _ (by unfold kOl; omega), q36f _ _ (by unfold kPl; omega)]; exact a18), (by rw [q42f _ _ (by unfold kOl; omega), q36f _ _ (by unfold kPl; omega)]; exact a19)⟩, (fun j g1 g2 => by have z := jv j g1 g2; rw [q42f _ 7 (by unfold kOl; omega), q36f _ 7 (by unfold kPl; omega), q42f _ 8 (by unfold kOl; omega), q36f _ 8 (by unfold kPl; omega), q42f _ 9 (by unfold kOl; omega), q36f _ 9 (by unfold kPl; omega)]; exact z), (fun k g1 g2 => by rw [q42f _ _ (by unfold kOl; omega), q36f _ _ (by unfold kPl; omega)]; exact vv k g1 g2), q36x.eq (fun c k g => q42f c k (by unfold kOl; omega)), q42x⟩, aQ.q (q42f.mono (fun c k q => nq_kOl (by omega) q)) q36T q42T a ga.1 ga.2 q36p⟩
      · replace h7 : (y1 : Int) < 6 := by have q : ¬ ((y1 : Int) ≥ 6) := h7; omega
        refine e_Ok.run (t' := (9, [(0, (1, 17 * a + 86)), (1, (0, y1))], [(1, 17 * a + 86)], v1)) 1 rfl ?_
        refine e_Ok.getr (z := 17 * a + 87) rfl (lA0 (a := a) (by omega) (by omega)) rfl rfl ((j3 (17 * a + 86) 0 (by unfold kAr; omega)).trans (Eq.trans (e_Has.eq hT (kA_0 (a := a) (by omega) (by omega))) (by omega))) (by omega) ?_
        refine e_Ok.run (t' := (13, [(0, (1, 17 * a + 86)), (1, (0, y1))], [(0, y1), (1, 17 * a + 87)], v1)) 1 rfl ?_
        refine e_Ok.aald (z := 17 * a + y1 + 97) rfl (lA1 (a := a) (by omega) (by omega)) rfl (by omega) ((j3 (17 * a + 87) y1 (by unfold kAr; omega)).trans (Eq.trans (e_Has.eq hT (kA87 (a := a) (by omega) (by omega) (by omega))) (by omega))) (by omega) ?_
        refine e_Ok.run (t' := (15, [(0, (1, 17 * a + 86)), (1, (0, y1))], [(0, 0), (1, 17 * a + y1 + 97)], v1)) 1 rfl ?_
        refine e_Ok.putf rfl (lJ (a := a) (j := y1) (by omega) (by omega) (by omega)) rfl rfl ?_
        generalize hw44 : e_up v1 (17 * a + y1 + 97) 7 0 = w44
        have f45 : e_fr (kAr a) w w44 := e_fr.up j3 hw44 (by unfold kAr; omega)
        have hT46 : e_Has kTy w44 := e_Has.upr j4 hw44 (kJ_7 (a := a) (j := y1) (by omega) (by omega) (by omega)) (by omega)
        refine e_Ok.run (t' := (19, [(0, (1, 17 * a + 86)), (1, (0, y1))], [(1, 17 * a + 86)], w44)) 1 rfl ?_
        refine e_Ok.getr (z := 17 * a + 87) rfl (lA0 (a := a) (by omega) (by omega)) rfl rfl (by rw [← hw44]; exact (e_up_ne _ _ (Or.inr (by omega))).trans ((j3 (17 * a + 86) 0 (by unfold kAr; omega)).trans (Eq.trans (e_Has.eq hT (kA_0 (a := a) (by omega) (by omega))) (by omega)))) (by omega) ?_
        refine e_Ok.run (t' := (23, [(0, (1, 17 * a + 86)), (1, (0, y1))], [(0, y1), (1, 17 * a + 87)], w44)) 1 rfl ?_
        refine e_Ok.aald (z := 17 * a + y1 + 97) rfl (lA1 (a := a) (by omega) (by omega)) rfl (by omega) (by rw [← hw44]; exact (e_up_ne _ _ (Or.inl (by omega))).trans ((j3 (17 * a + 87) y1 (by unfold kAr; omega)).trans (Eq.trans (e_Has.eq hT (kA87 (a := a) (by omega) (by omega) (by omega))) (by omega)))) (by omega) ?_
        refine e_Ok.run (t' := (25, [(0, (1, 17 * a + 86)), (1, (0, y1))], [(0, 0), (1, 17 * a + y1 + 97)], w44)) 1 rfl ?_
        refine e_Ok.putf rfl (lJ (a := a) (j := y1) (by omega) (by omega) (by omega)) rfl rfl ?_
        generalize hw47 : e_up w44 (17 * a + y1 + 97) 9 0 = w47
        have f48 : e_fr (kAr a) w w47 := e_fr.up f45 hw47 (by unfold kAr; omega)
        have hT49 : e_Has kTy w47 := e_Has.upr hT46 hw47 (kJ_9 (a := a) (j := y1) (by omega) (by omega) (by omega)) (by omega)
        refine e_Ok.inc (z := y1 + 1) rfl rfl (by omega) (by omega) ?_
        show e_Ok 20 elay kcode eI (d + 1) 3 (31, [(1, (0, y1 + 1)), (0, (1, 17 * a + 86))], [], w47) _
        refine e_Ok.run (t' := (2, [(1, (0, y1 + 1)), (0, (1, 17 * a + 86))], [], w47)) 1 rfl ?_
        refine e_Ok.sub kAlk (e_sub_of rfl ?_) (ih2 (y1 + 1) w47 ⟨f48, hT49, (fun i g1 g2 => by by_cases e : i = y1; (rw [e]; exact ⟨(by rw [← hw47]; exact (e_up_ne _ _ (Or.inr (by omega))).trans (by rw [← hw44]; exact e_up_eq _ _ _ _)), (by rw [← hw47]; exact e_up_eq _ _ _ _)⟩); (have z := j5 i g1 (by omega); exact ⟨by rw [← hw47, e_up_ne _ _ (by omega), ← hw44, e_up_ne _ _ (by omega)]; exact z.1, by rw [← hw47, e_up_ne _ _ (by omega), ← hw44, e_up_ne _ _ (by omega)]; exact z.2⟩)), by omega⟩ (by omega))
        exact ⟨rfl, rfl, trivial⟩
  refine e_Ok.sub kAlk (e_sub_of rfl ?_) (hL1 (6 + 1 : Int).toNat 0 w ⟨(e_fr.refl w), hT, (fun i g1 g2 => by omega), by omega⟩ (by omega))
  exact ⟨rfl, rfl, trivial⟩
end
