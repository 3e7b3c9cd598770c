-- part d1
section
noncomputable section
/-! the class: an arm is as at the beginning -/
def kAr (a : Int) (c k : Int) : Prop := (c = 17 * a + 86 ∧ (k = 11 ∨ (13 ≤ k ∧ k ≤ 19))) ∨ (17 * a + 97 ≤ c ∧ c ≤ 17 * a + 102 ∧ 7 ≤ k ∧ k ≤ 9) ∨ ((c = 17 * a + 88 ∨ c = 17 * a + 89) ∧ 1 ≤ k) ∨ c = 17 * a + 90 ∨ c = 17 * a + 91 ∨ c = 17 * a + 93
/-- an arm as it is at the beginning -/
def aR0 (w : eW) (a : Int) : Prop := (w (17 * a + 86) 11 = 0 ∧ w (17 * a + 86) 13 = -1 ∧ w (17 * a + 86) 14 = -1 ∧ w (17 * a + 86) 15 = 0 ∧ w (17 * a + 86) 16 = -1 ∧ w (17 * a + 86) 17 = -1 ∧ w (17 * a + 86) 18 = -1 ∧ w (17 * a + 86) 19 = 0) ∧ (∀ j, 0 ≤ j → j < 6 → w (17 * a + j + 97) 7 = 0 ∧ w (17 * a + j + 97) 8 = 0 ∧ w (17 * a + j + 97) 9 = 0) ∧ (∀ k, 0 ≤ k → k < 32 → w (17 * a + 93) k = 0) ∧ aK w a ∧ oK w a
theorem c_452_93z {d : Nat} {w : eW} (hT : e_Has kCy w) {a : Int} (g_a : 0 ≤ a ∧ a ≤ 3) : e_Ok 20 elay kcode eI d 452 (0, [(0, (1, 17 * a + 93)), (1, (0, 0))], [], w) (fun r w' => r = [] ∧ e_fr (kF93 a) w w' ∧ e_Has kCy w' ∧ (∀ k, 0 ≤ k → k < 32 → w' (17 * a + 93) k = 0)) := by
  refine e_Ok.run (t' := (3, [(2, (0, 0)), (0, (1, 17 * a + 93)), (1, (0, 0))], [(1, 17 * a + 93)], w)) 3 rfl ?_
  refine e_Ok.alen rfl (lA7 (a := a) rfl g_a) rfl ?_
  refine e_Ok.run (t' := (5, [(3, (0, 32)), (2, (0, 0)), (0, (1, 17 * a + 93)), (1, (0, 0))], [], w)) 1 rfl ?_
  have hL1 : ∀ (nn : Nat) (y2 : Int) (v1 : eW), e_fr (kF93 a) w v1 ∧ e_Has kCy v1 ∧ (∀ i, 0 ≤ i → i < y2 → v1 (17 * a + 93) i = 0) ∧ (0 ≤ y2 ∧ y2 ≤ 32) → 32 - y2 < nn → e_Ok 20 elay kcode eI d 452 (5, [(0, (1, 17 * a + 93)), (1, (0, 0)), (2, (0, y2)), (3, (0, 32))], [], v1) (fun r w' => r = [] ∧ e_fr (kF93 a) w w' ∧ e_Has kCy w' ∧ (∀ k, 0 ≤ k → k < 32 → w' (17 * a + 93) k = 0)) := by
    intro nn
    induction nn with
    | zero => intro y2 v1 hj hm; obtain ⟨j3, j4, j5, j6⟩ := hj; exfalso; omega
    | succ nn ih2 =>
      intro y2 v1 hj hm
      obtain ⟨j3, j4, j5, j6⟩ := hj
      refine e_Ok.run (t' := (7, [(0, (1, 17 * a + 93)), (1, (0, 0)), (2, (0, y2)), (3, (0, 32))], [(0, 32), (0, y2)], v1)) 2 rfl ?_
      refine e_Ok.if2 rfl (fun h7 => ?_) (fun h7 => ?_)
      · replace h7 : (y2 : Int) ≥ 32 := h7
        refine e_Ok.rets rfl rfl ?_
        exact ⟨rfl, j3, j4, fun k g1 g2 => j5 k g1 (by omega)⟩
      · replace h7 : (y2 : Int) < 32 := Int.not_le.mp (show ¬ ((y2 : Int) ≥ 32) from h7)
        refine e_Ok.ps3 (x := (0, 0)) (y := (0, y2)) (z := (1, 17 * a + 93)) (q := 13) 3 rfl ?_
        refine e_Ok.ast rfl (lA7 (a := a) rfl g_a) rfl rfl (by omega) ?_
        generalize hw8 : e_up v1 (17 * a + 93) y2 0 = w8
        have hT10 : e_Has kCy w8 := e_Has.ups j4 hw8 (kCy_no2 (Or.inl (Or.inr (Or.inr (Or.inr (Or.inr (Or.inr (Or.inr (Or.inr (Or.inr (Or.inr (Or.inr (Or.inr (Or.inr (Or.inr (Or.inr (Or.inr (Or.inl (by omega)))))))))))))))))) (kA93 (a := a) _ rfl g_a) (by decide))
        refine e_Ok.inc (z := y2 + 1) rfl rfl (by first | with_reducible rfl | omega) (by omega) ?_
        show e_Ok 20 elay kcode eI d 452 (17, [(2, (0, y2 + 1)), (0, (1, 17 * a + 93)), (1, (0, 0)), (3, (0, 32))], [], w8) _
        refine e_Ok.ps0 (q := 5) 1 rfl ?_
        refine e_Ok.sub kAlk (e_sub_of rfl ?_) (ih2 (y2 + 1) w8 ⟨(show e_fr (kF93 a) w w8 from e_fr.up j3 hw8 (by first | exact (by omega) | (unfold kF93; omega))), hT10, (fun i g1 g2 => by rw [← hw8]; by_cases e : i = y2; (rw [e, e_up_eq]); (rw [e_up_ne _ _ (Or.inr e)]; exact j5 i g1 (by omega))), by omega⟩ (by omega))
        exact ⟨rfl, rfl, rfl, rfl, trivial⟩
  refine e_Ok.sub kAlk (e_sub_of rfl ?_) (hL1 (32 + 1 : Int).toNat 0 w ⟨(e_fr.refl w), hT, (fun i g1 g2 => by omega), by omega⟩ (by omega))
  exact ⟨rfl, rfl, rfl, rfl, trivial⟩
theorem no_d1_0 {a : Int} (ha : 0 ≤ a ∧ a ≤ 3) : ¬ kSt a (17 * a + 86) 0 := by unfold kSt; omega
theorem c_17_z {d : Nat} {w : eW} (hT : e_Has kCy w) {a : Int} (g_a : 0 ≤ a ∧ a ≤ 3) : e_Ok 20 elay kcode eI d 17 (0, [(0, (1, 17 * a + 86))], [], w) (fun r w' => r = [] ∧ e_fr (kSt a) w w' ∧ e_Has kCy w' ∧ (w' (17 * a + 86) 11 = 0 ∧ w' (17 * a + 86) 13 = -1 ∧ w' (17 * a + 86) 18 = -1) ∧ ∀ i, 0 ≤ i → i < 6 → w' (17 * a + i + 97) 8 = 0) := by
  refine e_Ok.ps2 (x := (0, 0)) (y := (1, 17 * a + 86)) (q := 2) 2 rfl ?_
  refine e_Ok.putf rfl (lA0 (a := a) rfl g_a) rfl rfl ?_
  generalize hw1 : e_up w (17 * a + 86) 11 0 = w1
  have hT3 : e_Has kCy w1 := e_Has.ups hT hw1 (kCy_no2 (Or.inl (Or.inr (Or.inr (Or.inr (Or.inr (Or.inr (Or.inr (Or.inr (Or.inr (Or.inr (Or.inr (Or.inr (Or.inr (Or.inr (Or.inl (by omega)))))))))))))))) (kA_11 (a := a) rfl g_a) (by decide))
  refine e_Ok.ps2 (x := (0, (-1))) (y := (1, 17 * a + 86)) (q := 7) 2 rfl ?_
  refine e_Ok.putf rfl (lA0 (a := a) rfl g_a) rfl rfl ?_
  generalize hw4 : e_up w1 (17 * a + 86) 13 (-1) = w4
  have hT6 : e_Has kCy w4 := e_Has.ups hT3 hw4 (kCy_no2 (Or.inl (Or.inr (Or.inr (Or.inr (Or.inr (Or.inr (Or.inr (Or.inr (Or.inr (Or.inr (Or.inr (Or.inr (Or.inr (Or.inr (Or.inl (by omega)))))))))))))))) (kA_13 (a := a) rfl g_a) (by decide))
  refine e_Ok.ps2 (x := (0, (-1))) (y := (1, 17 * a + 86)) (q := 12) 2 rfl ?_
  refine e_Ok.putf rfl (lA0 (a := a) rfl g_a) rfl rfl ?_
  generalize hw7 : e_up w4 (17 * a + 86) 18 (-1) = w7
  have hT9 : e_Has kCy w7 := e_Has.ups hT6 hw7 (kCy_no2 (Or.inl (Or.inr (Or.inr (Or.inr (Or.inr (Or.inr (Or.inr (Or.inr (Or.inr (Or.inr (Or.inr (Or.inr (Or.inr (Or.inr (Or.inl (by omega)))))))))))))))) (kA_18 (a := a) rfl g_a) (by decide))
  refine e_Ok.run (t' := (17, [(1, (0, 0)), (0, (1, 17 * a + 86))], [], w7)) 2 rfl ?_
  have hL10 : ∀ (nn : Nat) (y1 : Int) (v1 : eW), e_fr (kSt a) w v1 ∧ e_Has kCy v1 ∧ (∀ i, 0 ≤ i → i < y1 → v1 (17 * a + i + 97) 8 = 0) ∧ v1 (17 * a + 86) 11 = 0 ∧ v1 (17 * a + 86) 13 = -1 ∧ v1 (17 * a + 86) 18 = -1 ∧ (0 ≤ y1 ∧ y1 ≤ 6) → 6 - y1 < nn → e_Ok 20 elay kcode eI d 17 (17, [(0, (1, 17 * a + 86)), (1, (0, y1))], [], v1) (fun r w' => r = [] ∧ e_fr (kSt a) w w' ∧ e_Has kCy w' ∧ (w' (17 * a + 86) 11 = 0 ∧ w' (17 * a + 86) 13 = -1 ∧ w' (17 * a + 86) 18 = -1) ∧ ∀ i, 0 ≤ i → i < 6 → w' (17 * a + i + 97) 8 = 0) := by
    intro nn
    induction nn with
    | zero => intro y1 v1 hj hm; obtain ⟨j12, j13, j14, j15, j16, j17, j18⟩ := hj; exfalso; omega
    | succ nn ih11 =>
      intro y1 v1 hj hm
      obtain ⟨j12, j13, j14, j15, j16, j17, j18⟩ := hj
      refine e_Ok.run (t' := (20, [(0, (1, 17 * a + 86)), (1, (0, y1))], [(0, 6), (0, y1)], v1)) 2 rfl ?_
      refine e_Ok.if2 rfl (fun h19 => ?_) (fun h19 => ?_)
      · replace h19 : (y1 : Int) ≥ 6 := h19
        refine e_Ok.rets rfl rfl ?_
        exact ⟨rfl, j12, j13, ⟨⟨j15, j16, j17⟩, fun i g1 g2 => j14 i g1 (by omega)⟩⟩
      · replace h19 : (y1 : Int) < 6 := Int.not_le.mp (show ¬ ((y1 : Int) ≥ 6) from h19)
        refine e_Ok.ps1 (x := (1, 17 * a + 86)) (q := 24) 1 rfl ?_
        refine e_Ok.getr (z := 17 * a + 87) rfl (lA0 (a := a) rfl g_a) rfl rfl ((j12 (17 * a + 86) 0 (by first | exact no_d1_0 (by omega) | (unfold kSt; omega))).trans (Eq.trans (e_Has.eq hT (kCy_c (kA_0 (a := a) rfl g_a))) (by omega))) (by omega) ?_
        refine e_Ok.ps1 (x := (0, y1)) (q := 28) 1 rfl ?_
        refine e_Ok.aald (z := 17 * a + y1 + 97) rfl (lA1 (a := a) rfl g_a) rfl (by omega) ((j12 (17 * a + 87) y1 (by unfold kSt; omega)).trans (Eq.trans (e_Has.eq hT (kCy_c (kA87 (a := a) rfl g_a (by omega)))) (by omega))) (by omega) ?_
        refine e_Ok.ps1 (x := (0, 0)) (q := 30) 1 rfl ?_
        refine e_Ok.putf rfl (lJ (a := a) (j := y1) (by omega) (by omega) (by omega)) rfl rfl ?_
        generalize hw20 : e_up v1 (17 * a + y1 + 97) 8 0 = w20
        have hT22 : e_Has kCy w20 := e_Has.ups j13 hw20 (kCy_no2 (Or.inl (Or.inr (Or.inr (Or.inr (Or.inr (Or.inr (Or.inr (Or.inr (Or.inr (Or.inr (Or.inr (Or.inr (Or.inr (Or.inr (Or.inr (Or.inr (Or.inr ((by omega))))))))))))))))))) (kJ_8 (a := a) (j := y1) (by omega) (by omega) (by omega)) (by decide))
        refine e_Ok.inc (z := y1 + 1) rfl rfl (by first | with_reducible rfl | omega) (by omega) ?_
        show e_Ok 20 elay kcode eI d 17 (36, [(1, (0, y1 + 1)), (0, (1, 17 * a + 86))], [], w20) _
        refine e_Ok.ps0 (q := 17) 1 rfl ?_
        refine e_Ok.sub kAlk (e_sub_of rfl ?_) (ih11 (y1 + 1) w20 ⟨(show e_fr (kSt a) w w20 from e_fr.up j12 hw20 (by unfold kSt; omega)), hT22, (fun i g1 g2 => by rw [← hw20]; by_cases e : i = y1; (rw [e]; exact e_up_eq _ _ _ _); (rw [e_up_ne _ _ (Or.inl (by omega))]; exact j14 i g1 (by omega))), (e_uq hw20 (Or.inl (by omega)) j15), (e_uq hw20 (Or.inl (by omega)) j16), (e_uq hw20 (Or.inl (by omega)) j17), by omega⟩ (by omega))
        exact ⟨rfl, rfl, trivial⟩
  refine e_Ok.sub kAlk (e_sub_of rfl ?_) (hL10 (6 + 1 : Int).toNat 0 w7 ⟨(show e_fr (kSt a) w w7 from e_fr.up (show e_fr (kSt a) w w4 from e_fr.up (show e_fr (kSt a) w w1 from e_fr.up (e_fr.refl w) hw1 (by first | exact Or.inl ⟨(by omega), Or.inl rfl⟩ | (unfold kSt; omega))) hw4 (by first | exact Or.inl ⟨(by omega), Or.inr (Or.inl rfl)⟩ | (unfold kSt; omega))) hw7 (by first | exact Or.inl ⟨(by omega), Or.inr (Or.inr rfl)⟩ | (unfold kSt; omega))), hT9, (fun i g1 g2 => by omega), (e_uq hw7 (Or.inr (by omega)) (e_uq hw4 (Or.inr (by omega)) (e_ue hw1))), (e_uq hw7 (Or.inr (by omega)) (e_ue hw4)), (e_ue hw7), by omega⟩ (by omega))
  exact ⟨rfl, rfl, trivial⟩
theorem no_d1_1 {a : Int} (ha : 0 ≤ a ∧ a ≤ 3) : ¬ kOl a (17 * a + 86) 8 := by unfold kOl; omega
theorem no_d1_2 {a : Int} (ha : 0 ≤ a ∧ a ≤ 3) : ¬ kOl a (17 * a + 86) 3 := by unfold kOl; omega
theorem no_d1_3 {a : Int} (ha : 0 ≤ a ∧ a ≤ 3) : ¬ kOl a (17 * a + 86) 1 := by unfold kOl; omega
theorem no_d1_4 {a : Int} (ha : 0 ≤ a ∧ a ≤ 3) : ¬ kOl a (17 * a + 86) 4 := by unfold kOl; omega
theorem no_d1_5 {a : Int} (ha : 0 ≤ a ∧ a ≤ 3) : ¬ kOl a (17 * a + 86) 2 := by unfold kOl; omega
theorem c_11_z {d : Nat} {w : eW} (hT : e_Has kCy w) {a : Int} (g_a : 0 ≤ a ∧ a ≤ 3) (kx : aK w a) : e_Ok 20 elay kcode eI d 11 (0, [(0, (1, 17 * a + 86))], [], w) (fun r w' => r = [] ∧ e_fr (kOl a) w w' ∧ e_Has kCy w' ∧ oK w' a) := by
  have hjn := kz_joints hT (a := a) (by omega)
  refine e_Ok.run (t' := (2, [(1, (0, 0)), (0, (1, 17 * a + 86))], [], w)) 2 rfl ?_
  have hL1 : ∀ (nn : Nat) (y1 : Int) (v1 : eW), e_fr (kOl a) w v1 ∧ e_Has kCy v1 ∧ e_kn v1 (17 * a + 90) 0 (y1 - 1) ∧ e_kn v1 (17 * a + 91) 0 (y1 - 1) ∧ y1 ≤ w (17 * a + 86) 8 + 1 ∧ (0 ≤ y1 ∧ y1 ≤ 7) → 7 - y1 < nn → e_Ok 20 elay kcode eI d 11 (2, [(0, (1, 17 * a + 86)), (1, (0, y1))], [], v1) (fun r w' => r = [] ∧ e_fr (kOl a) w w' ∧ e_Has kCy w' ∧ oK w' a) := by
    intro nn
    induction nn with
    | zero => intro y1 v1 hj hm; obtain ⟨j3, j4, j5, j6, j7, j8⟩ := hj; exfalso; omega
    | succ nn ih2 =>
      intro y1 v1 hj hm
      obtain ⟨j3, j4, j5, j6, j7, j8⟩ := hj
      have l9 : v1 (17 * a + 86) 8 = w (17 * a + 86) 8 := j3 (17 * a + 86) 8 (by first | exact no_d1_1 (by omega) | (unfold kOl; omega))
      refine e_Ok.run (t' := (4, [(0, (1, 17 * a + 86)), (1, (0, y1))], [(1, 17 * a + 86), (0, y1)], v1)) 2 rfl ?_
      have h10 := (e_Has.get hT (c := 17 * a + 86) (k := 8) (lo := 0) (hi := 6) (kCy_n (nh_A (a := a) (by omega) (by omega) (by decide)) (kA_8 (a := a) rfl g_a)) (by decide))
      refine e_Ok.getf (z := w (17 * a + 86) 8) rfl (lA0 (a := a) rfl g_a) rfl rfl ((j3 (17 * a + 86) 8 (by first | exact no_d1_1 (by omega) | (unfold kOl; omega))).trans rfl) (e_bq h10 (by decide) (by decide)) ?_
      refine e_Ok.if2 rfl (fun h11 => ?_) (fun h11 => ?_)
      · replace h11 : (y1 : Int) > w (17 * a + 86) 8 := h11
        refine e_Ok.rets rfl rfl ?_
        exact ⟨rfl, j3, j4, (by unfold oK; rw [(show v1 (17 * a + 86) 8 = w (17 * a + 86) 8 from j3 _ _ (by unfold kOl; omega))]; exact ⟨e_kn_sub j5 (by omega) (by omega), e_kn_sub j6 (by omega) (by omega)⟩)⟩
      · replace h11 : (y1 : Int) ≤ w (17 * a + 86) 8 := Int.not_lt.mp (show ¬ ((y1 : Int) > w (17 * a + 86) 8) from h11)
        refine e_Ok.ps1 (x := (1, 17 * a + 86)) (q := 11) 1 rfl ?_
        refine e_Ok.getr (z := 17 * a + 90) rfl (lA0 (a := a) rfl g_a) rfl rfl ((j3 (17 * a + 86) 3 (by first | exact no_d1_2 (by omega) | (unfold kOl; omega))).trans (Eq.trans (e_Has.eq hT (kCy_c (kA_3 (a := a) rfl g_a))) (by omega))) (by omega) ?_
        refine e_Ok.ps2 (x := (1, 17 * a + 86)) (y := (0, y1)) (q := 16) 2 rfl ?_
        refine e_Ok.getr (z := 17 * a + 88) rfl (lA0 (a := a) rfl g_a) rfl rfl ((j3 (17 * a + 86) 1 (by first | exact no_d1_3 (by omega) | (unfold kOl; omega))).trans (Eq.trans (e_Has.eq hT (kCy_c (kA_1 (a := a) rfl g_a))) (by omega))) (by omega) ?_
        refine e_Ok.ps1 (x := (0, y1)) (q := 20) 1 rfl ?_
        have h12 := (kx.1 y1 (by omega) (by omega))
        refine e_Ok.ald (z := w (17 * a + 88) y1) rfl (lA2 (a := a) rfl g_a) rfl (by omega) ((j3 (17 * a + 88) y1 (by unfold kOl; omega)).trans rfl) (by omega) ?_
        refine e_Ok.ast rfl (lA4 (a := a) rfl g_a) rfl rfl (by omega) ?_
        generalize hw13 : e_up v1 (17 * a + 90) y1 (w (17 * a + 88) y1) = w13
        have f14 : e_fr (kOl a) w w13 := e_fr.up j3 hw13 (by first | exact Or.inl (by omega) | (unfold kOl; omega))
        have l15 : w13 (17 * a + 86) 8 = w (17 * a + 86) 8 := f14 (17 * a + 86) 8 (by first | exact no_d1_1 (by omega) | (unfold kOl; omega))
        have hT16 : e_Has kCy w13 := e_Has.ups j4 hw13 (kCy_no1 (kA90 (a := a) _ rfl g_a))
        refine e_Ok.ps1 (x := (1, 17 * a + 86)) (q := 23) 1 rfl ?_
        refine e_Ok.getr (z := 17 * a + 91) rfl (lA0 (a := a) rfl g_a) rfl rfl (e_uq hw13 (Or.inl (e_neo (by decide))) ((j3 (17 * a + 86) 4 (by first | exact no_d1_4 (by omega) | (unfold kOl; omega))).trans (Eq.trans (e_Has.eq hT (kCy_c (kA_4 (a := a) rfl g_a))) (by omega)))) (by omega) ?_
        refine e_Ok.ps2 (x := (1, 17 * a + 86)) (y := (0, y1)) (q := 28) 2 rfl ?_
        refine e_Ok.getr (z := 17 * a + 89) rfl (lA0 (a := a) rfl g_a) rfl rfl (e_uq hw13 (Or.inl (e_neo (by decide))) ((j3 (17 * a + 86) 2 (by first | exact no_d1_5 (by omega) | (unfold kOl; omega))).trans (Eq.trans (e_Has.eq hT (kCy_c (kA_2 (a := a) rfl g_a))) (by omega)))) (by omega) ?_
        refine e_Ok.ps1 (x := (0, y1)) (q := 32) 1 rfl ?_
        have h17 := (kx.2 y1 (by omega) (by omega))
        refine e_Ok.ald (z := w (17 * a + 89) y1) rfl (lA3 (a := a) rfl g_a) rfl (by omega) (e_uq hw13 (Or.inl (e_neo (by decide))) ((j3 (17 * a + 89) y1 (by unfold kOl; omega)).trans rfl)) (by omega) ?_
        refine e_Ok.ast rfl (lA5 (a := a) rfl g_a) rfl rfl (by omega) ?_
        generalize hw18 : e_up w13 (17 * a + 91) y1 (w (17 * a + 89) y1) = w18
        have f19 : e_fr (kOl a) w w18 := e_fr.up f14 hw18 (by first | exact Or.inr (by omega) | (unfold kOl; omega))
        have l20 : w18 (17 * a + 86) 8 = w (17 * a + 86) 8 := f19 (17 * a + 86) 8 (by first | exact no_d1_1 (by omega) | (unfold kOl; omega))
        have hT21 : e_Has kCy w18 := e_Has.ups hT16 hw18 (kCy_no1 (kA91 (a := a) _ rfl g_a))
        refine e_Ok.inc (z := y1 + 1) rfl rfl (by first | with_reducible rfl | omega) (by omega) ?_
        show e_Ok 20 elay kcode eI d 11 (37, [(1, (0, y1 + 1)), (0, (1, 17 * a + 86))], [], w18) _
        refine e_Ok.ps0 (q := 2) 1 rfl ?_
        refine e_Ok.sub kAlk (e_sub_of rfl ?_) (ih2 (y1 + 1) w18 ⟨f19, hT21, (e_kn_sub (e_kn.oth (e_kn.ext j5 hw13 (by omega) (by omega)) hw18 (by omega)) (by omega) (by omega)), (e_kn_sub (e_kn.ext (e_kn.oth j6 hw13 (by omega)) hw18 (by omega) (by omega)) (by omega) (by omega)), by omega, by omega⟩ (by omega))
        exact ⟨rfl, rfl, trivial⟩
  refine e_Ok.sub kAlk (e_sub_of rfl ?_) (hL1 (7 + 1 : Int).toNat 0 w ⟨(e_fr.refl w), hT, (fun i g1 g2 => by omega), (fun i g1 g2 => by omega), by omega, by omega⟩ (by omega))
  exact ⟨rfl, rfl, trivial⟩
theorem no_d1_6 {a : Int} (ha : 0 ≤ a ∧ a ≤ 3) : ¬ kAr a (17 * a + 86) 6 := by unfold kAr; omega
theorem no_d1_7 {a : Int} (ha : 0 ≤ a ∧ a ≤ 3) : ¬ kAr a (17 * a + 86) 0 := by unfold kAr; omega
theorem su_d1_8 {a : Int} {c k : Int} (q : kF93 a c k) : kAr a c k := by
  unfold kF93 at q
  rcases q with q
  · exact Or.inr (Or.inr (Or.inr (Or.inr (Or.inr (by omega)))))
theorem su_d1_9 {a : Int} {c k : Int} (q : kSt a c k) : kAr a c k := by
  unfold kSt at q
  rcases q with ⟨q, (q | q | q)⟩ | ⟨q, ⟨q, q⟩⟩
  · exact Or.inl ⟨(by omega), Or.inl (by omega)⟩
  · exact Or.inl ⟨(by omega), Or.inr ⟨(by omega), (by omega)⟩⟩
  · exact Or.inl ⟨(by omega), Or.inr ⟨(by omega), (by omega)⟩⟩
  · exact Or.inr (Or.inl ⟨(by omega), ⟨(by omega), ⟨(by omega), (by omega)⟩⟩⟩)
theorem su_d1_10 {a : Int} {c k : Int} (q : kPl a c k) : kAr a c k := by
  unfold kPl at q
  rcases q with ⟨(q | q), q⟩
  · exact Or.inr (Or.inr (Or.inl ⟨Or.inl (by omega), (by omega)⟩))
  · exact Or.inr (Or.inr (Or.inl ⟨Or.inr (by omega), (by omega)⟩))
theorem su_d1_11 {a : Int} {c k : Int} (q : kOl a c k) : kAr a c k := by
  unfold kOl at q
  rcases q with q | q
  · exact Or.inr (Or.inr (Or.inr (Or.inl (by omega))))
  · exact Or.inr (Or.inr (Or.inr (Or.inr (Or.inl (by omega)))))
set_option maxHeartbeats 4000000 in
theorem c_3_z {d : Nat} (hd : 24 ≤ d) {w : eW} (hT : e_Has kCy w) {a : Int} (ga : 0 ≤ a ∧ a ≤ 3) (hx : kn1 (w (17 * a + 88) 0)) (hy : kn1 (w (17 * a + 89) 0)) : e_Ok 20 elay kcode eI d 3 (0, [(0, (1, 17 * a + 86))], [], w) (fun r w' => r = [] ∧ e_fr (kAr a) w w' ∧ e_Has kCy w' ∧ aR0 w' a) := by
  obtain ⟨d, rfl⟩ : ∃ e, d = e + 1 := ⟨d - 1, by omega⟩
  refine e_Ok.run (t' := (2, [(1, (0, 0)), (0, (1, 17 * a + 86))], [], w)) 2 rfl ?_
  have hL1 : ∀ (nn : Nat) (y1 : Int) (v1 : eW), e_fr (kAr a) w v1 ∧ e_Has kCy v1 ∧ (∀ i, 0 ≤ i → i < y1 → v1 (17 * a + i + 97) 7 = 0 ∧ v1 (17 * a + i + 97) 9 = 0) ∧ (0 ≤ y1 ∧ y1 ≤ 6) → 6 - y1 < nn → e_Ok 20 elay kcode eI (d + 1) 3 (2, [(0, (1, 17 * a + 86)), (1, (0, y1))], [], v1) (fun r w' => r = [] ∧ e_fr (kAr a) w w' ∧ e_Has kCy w' ∧ aR0 w' a) := by
    intro nn
    induction nn with
    | zero => intro y1 v1 hj hm; obtain ⟨j3, j4, j5, j6⟩ := hj; exfalso; omega
    | succ nn ih2 =>
      intro y1 v1 hj hm
      obtain ⟨j3, j4, j5, j6⟩ := hj
      refine e_Ok.run (t' := (5, [(0, (1, 17 * a + 86)), (1, (0, y1))], [(0, 6), (0, y1)], v1)) 2 rfl ?_
      refine e_Ok.if2 rfl (fun h7 => ?_) (fun h7 => ?_)
      · replace h7 : (y1 : Int) ≥ 6 := h7
        refine e_Ok.ps1 (x := (1, 17 * a + 86)) (q := 35) 1 rfl ?_
        refine e_Ok.getr (z := 17 * a + 93) rfl (lA0 (a := a) rfl ga) rfl rfl ((j3 (17 * a + 86) 6 (by first | exact no_d1_6 (by omega) | (unfold kAr; omega))).trans (Eq.trans (e_Has.eq hT (kCy_c (kA_6 (a := a) rfl ga))) (by omega))) (by omega) ?_
        refine e_Ok.ps1 (x := (0, 0)) (q := 39) 1 rfl ?_
        refine e_Ok.callS rfl (e_dq hd rfl) rfl rfl (c_452_93z (a := a) j4 (by omega)) (fun r8 w9 h10 => ?_)
        obtain ⟨rfl, q11f, q11T, q11x⟩ := h10
        refine e_Ok.nrm (q := 42) (st' := []) rfl rfl ?_
        refine e_Ok.ps1 (x := (1, 17 * a + 86)) (q := 43) 1 rfl ?_
        refine e_Ok.callV rfl (e_dq hd rfl) rfl (lA0 (a := a) rfl ga) rfl rfl (c_17_z (a := a) q11T (by omega)) (fun r13 w14 h15 => ?_)
        obtain ⟨rfl, q16f, q16T, q16x⟩ := h15
        refine e_Ok.nrm (q := 46) (st' := []) rfl rfl ?_
        refine e_Ok.ps2 (x := (0, (-1))) (y := (1, 17 * a + 86)) (q := 48) 2 rfl ?_
        refine e_Ok.putf rfl (lA0 (a := a) rfl ga) rfl rfl ?_
        generalize hw18 : e_up w14 (17 * a + 86) 14 (-1) = w18
        have hT20 : e_Has kCy w18 := e_Has.ups q16T hw18 (kCy_no2 (Or.inl (Or.inr (Or.inr (Or.inr (Or.inr (Or.inr (Or.inr (Or.inr (Or.inr (Or.inr (Or.inr (Or.inr (Or.inr (Or.inr (Or.inl (by omega)))))))))))))))) (kA_14 (a := a) rfl ga) (by decide))
        refine e_Ok.ps2 (x := (0, 0)) (y := (1, 17 * a + 86)) (q := 53) 2 rfl ?_
        refine e_Ok.putf rfl (lA0 (a := a) rfl ga) rfl rfl ?_
        generalize hw21 : e_up w18 (17 * a + 86) 15 0 = w21
        have hT23 : e_Has kCy w21 := e_Has.ups hT20 hw21 (kCy_no2 (Or.inl (Or.inr (Or.inr (Or.inr (Or.inr (Or.inr (Or.inr (Or.inr (Or.inr (Or.inr (Or.inr (Or.inr (Or.inr (Or.inr (Or.inl (by omega)))))))))))))))) (kA_15 (a := a) rfl ga) (by decide))
        refine e_Ok.ps2 (x := (0, (-1))) (y := (1, 17 * a + 86)) (q := 58) 2 rfl ?_
        refine e_Ok.putf rfl (lA0 (a := a) rfl ga) rfl rfl ?_
        generalize hw24 : e_up w21 (17 * a + 86) 16 (-1) = w24
        have hT26 : e_Has kCy w24 := e_Has.ups hT23 hw24 (kCy_no2 (Or.inl (Or.inr (Or.inr (Or.inr (Or.inr (Or.inr (Or.inr (Or.inr (Or.inr (Or.inr (Or.inr (Or.inr (Or.inr (Or.inr (Or.inl (by omega)))))))))))))))) (kA_16 (a := a) rfl ga) (by decide))
        refine e_Ok.ps2 (x := (0, (-1))) (y := (1, 17 * a + 86)) (q := 63) 2 rfl ?_
        refine e_Ok.putf rfl (lA0 (a := a) rfl ga) rfl rfl ?_
        generalize hw27 : e_up w24 (17 * a + 86) 17 (-1) = w27
        have hT29 : e_Has kCy w27 := e_Has.ups hT26 hw27 (kCy_no2 (Or.inl (Or.inr (Or.inr (Or.inr (Or.inr (Or.inr (Or.inr (Or.inr (Or.inr (Or.inr (Or.inr (Or.inr (Or.inr (Or.inr (Or.inl (by omega)))))))))))))))) (kA_17 (a := a) rfl ga) (by decide))
        refine e_Ok.ps2 (x := (0, 0)) (y := (1, 17 * a + 86)) (q := 68) 2 rfl ?_
        refine e_Ok.putf rfl (lA0 (a := a) rfl ga) rfl rfl ?_
        generalize hw30 : e_up w27 (17 * a + 86) 19 0 = w30
        have f31 : e_fr (kAr a) w w30 := e_fr.up (show e_fr (kAr a) w w27 from e_fr.up (show e_fr (kAr a) w w24 from e_fr.up (show e_fr (kAr a) w w21 from e_fr.up (show e_fr (kAr a) w w18 from e_fr.up (show e_fr (kAr a) w w14 from e_fr.trans (show e_fr (kAr a) w w9 from e_fr.trans j3 (e_fr.mono q11f (fun c k q => by first | exact su_d1_8 q | (unfold kF93 at q; unfold kAr; omega)))) (e_fr.mono q16f (fun c k q => by first | exact su_d1_9 q | (unfold kSt at q; unfold kAr; omega)))) hw18 (by first | exact Or.inl ⟨(by omega), Or.inr ⟨(by decide), (by decide)⟩⟩ | (unfold kAr; omega))) hw21 (by first | exact Or.inl ⟨(by omega), Or.inr ⟨(by decide), (by decide)⟩⟩ | (unfold kAr; omega))) hw24 (by first | exact Or.inl ⟨(by omega), Or.inr ⟨(by decide), (by decide)⟩⟩ | (unfold kAr; omega))) hw27 (by first | exact Or.inl ⟨(by omega), Or.inr ⟨(by decide), (by decide)⟩⟩ | (unfold kAr; omega))) hw30 (by first | exact Or.inl ⟨(by omega), Or.inr ⟨(by decide), (by decide)⟩⟩ | (unfold kAr; omega))
        have hT32 : e_Has kCy w30 := e_Has.ups hT29 hw30 (kCy_no2 (Or.inl (Or.inr (Or.inr (Or.inr (Or.inr (Or.inr (Or.inr (Or.inr (Or.inr (Or.inr (Or.inr (Or.inr (Or.inr (Or.inr (Or.inl (by omega)))))))))))))))) (kA_19 (a := a) rfl ga) (by decide))
        have eS : ∀ c k, ¬ (c = 17 * a + 86 ∧ 14 ≤ k) → w30 c k = w14 c k := fun c k g => by rw [← hw30, e_up_ne _ _ (by omega), ← hw27, e_up_ne _ _ (by omega), ← hw24, e_up_ne _ _ (by omega), ← hw21, e_up_ne _ _ (by omega), ← hw18, e_up_ne _ _ (by omega)]
        have jv : ∀ j, 0 ≤ j → j < 6 → w30 (17 * a + j + 97) 7 = 0 ∧ w30 (17 * a + j + 97) 8 = 0 ∧ w30 (17 * a + j + 97) 9 = 0 := fun j g1 g2 => by
          have z := j5 j g1 (by omega)
          rw [eS _ _ (by omega), eS _ _ (by omega), eS _ _ (by omega), q16f _ 7 (by unfold kSt; omega), q16f _ 9 (by unfold kSt; omega), q11f _ _ (by unfold kF93; omega), q11f _ _ (by unfold kF93; omega)]
          exact ⟨z.1, q16x.2 j g1 g2, z.2⟩
        have vv : ∀ k, 0 ≤ k → k < 32 → w30 (17 * a + 93) k = 0 := fun k g1 g2 => by rw [eS _ _ (by omega), q16f _ _ (by unfold kSt; omega)]; exact q11x k g1 g2
        have a11 : w30 (17 * a + 86) 11 = 0 := by rw [eS _ _ (by omega)]; exact q16x.1.1
        have a13 : w30 (17 * a + 86) 13 = -1 := by rw [eS _ _ (by omega)]; exact q16x.1.2.1
        have a18 : w30 (17 * a + 86) 18 = -1 := by rw [← hw30, e_up_ne _ _ (by omega), ← hw27, e_up_ne _ _ (by omega), ← hw24, e_up_ne _ _ (by omega), ← hw21, e_up_ne _ _ (by omega), ← hw18, e_up_ne _ _ (by omega)]; exact q16x.1.2.2
        have a14 : w30 (17 * a + 86) 14 = (-1) := (e_uq hw30 (Or.inr (by decide)) (e_uq hw27 (Or.inr (by decide)) (e_uq hw24 (Or.inr (by decide)) (e_uq hw21 (Or.inr (by decide)) (e_ue hw18)))))
        have a15 : w30 (17 * a + 86) 15 = 0 := (e_uq hw30 (Or.inr (by decide)) (e_uq hw27 (Or.inr (by decide)) (e_uq hw24 (Or.inr (by decide)) (e_ue hw21))))
        have a16 : w30 (17 * a + 86) 16 = (-1) := (e_uq hw30 (Or.inr (by decide)) (e_uq hw27 (Or.inr (by decide)) (e_ue hw24)))
        have a17 : w30 (17 * a + 86) 17 = (-1) := (e_uq hw30 (Or.inr (by decide)) (e_ue hw27))
        have a19 : w30 (17 * a + 86) 19 = 0 := (e_ue hw30)
        refine e_Ok.run (t' := (72, [(0, (1, 17 * a + 86)), (1, (0, y1))], [(1, 17 * a + 86)], w30)) 1 rfl ?_
        refine e_Ok.callV rfl (e_dq hd rfl) rfl (lA0 (a := a) rfl ga) rfl rfl (c_10_z (e_dq hd rfl) (a := a) hT32 (by omega) (by rw [f31 _ _ (by unfold kAr; omega)]; exact hx) (by rw [f31 _ _ (by unfold kAr; omega)]; exact hy) (fun j g1 g2 => by have g3 := kz_joints hT32 (a := a) (by omega); rw [(jv j g1 (by omega)).1]; unfold kn1; omega)) (fun r33 w34 h35 => ?_)
        obtain ⟨rfl, q36f, q36T, q36x⟩ := h35
        refine e_Ok.nrm (q := 75) (st' := []) rfl rfl ?_
        refine e_Ok.ps1 (x := (1, 17 * a + 86)) (q := 76) 1 rfl ?_
        refine e_Ok.callV rfl (e_dq hd rfl) rfl (lA0 (a := a) rfl ga) rfl rfl (c_11_z (a := a) q36T (by omega) q36x) (fun r38 w40 h41 => ?_)
        obtain ⟨rfl, q42f, q42T, q42x⟩ := h41
        refine e_Ok.nrm (q := 79) (st' := []) rfl rfl ?_
        refine e_Ok.rets rfl rfl ?_
        exact ⟨rfl, (show e_fr (kAr a) w w40 from e_fr.trans (show e_fr (kAr a) w w34 from e_fr.trans f31 (e_fr.mono q36f (fun c k q => by first | exact su_d1_10 q | (unfold kPl at q; unfold kAr; omega)))) (e_fr.mono q42f (fun c k q => by first | exact su_d1_11 q | (unfold kOl at q; unfold kAr; omega)))), q42T, ⟨⟨(by rw [q42f _ _ (by unfold kOl; omega), q36f _ _ (by unfold kPl; omega)]; exact a11), (by rw [q42f _ _ (by unfold kOl; omega), q36f _ _ (by unfold kPl; omega)]; exact a13), (by rw [q42f _ _ (by unfold kOl; omega), q36f _ _ (by unfold kPl; omega)]; exact a14), (by rw [q42f _ _ (by unfold kOl; omega), q36f _ _ (by unfold kPl; omega)]; exact a15), (by rw [q42f _ _ (by unfold kOl; omega), q36f _ _ (by unfold kPl; omega)]; exact a16), (by rw [q42f _ _ (by unfold kOl; omega), q36f _ _ (by unfold kPl; omega)]; exact a17), (by rw [q42f _ _ (by unfold kOl; omega), q36f _ _ (by unfold kPl; omega)]; exact a18), (by rw [q42f _ _ (by unfold kOl; omega), q36f _ _ (by unfold kPl; omega)]; exact a19)⟩, (fun j g1 g2 => by have z := jv j g1 g2; rw [q42f _ 7 (by unfold kOl; omega), q36f _ 7 (by unfold kPl; omega), q42f _ 8 (by unfold kOl; omega), q36f _ 8 (by unfold kPl; omega), q42f _ 9 (by unfold kOl; omega), q36f _ 9 (by unfold kPl; omega)]; exact z), (fun k g1 g2 => by rw [q42f _ _ (by unfold kOl; omega), q36f _ _ (by unfold kPl; omega)]; exact vv k g1 g2), q36x.eq (fun c k g => q42f c k (by unfold kOl; omega)), q42x⟩⟩
      · replace h7 : (y1 : Int) < 6 := Int.not_le.mp (show ¬ ((y1 : Int) ≥ 6) from h7)
        refine e_Ok.ps1 (x := (1, 17 * a + 86)) (q := 9) 1 rfl ?_
        refine e_Ok.getr (z := 17 * a + 87) rfl (lA0 (a := a) rfl ga) rfl rfl ((j3 (17 * a + 86) 0 (by first | exact no_d1_7 (by omega) | (unfold kAr; omega))).trans (Eq.trans (e_Has.eq hT (kCy_c (kA_0 (a := a) rfl ga))) (by omega))) (by omega) ?_
        refine e_Ok.ps1 (x := (0, y1)) (q := 13) 1 rfl ?_
        refine e_Ok.aald (z := 17 * a + y1 + 97) rfl (lA1 (a := a) rfl ga) rfl (by omega) ((j3 (17 * a + 87) y1 (by unfold kAr; omega)).trans (Eq.trans (e_Has.eq hT (kCy_c (kA87 (a := a) rfl ga (by omega)))) (by omega))) (by omega) ?_
        refine e_Ok.ps1 (x := (0, 0)) (q := 15) 1 rfl ?_
        refine e_Ok.putf rfl (lJ (a := a) (j := y1) (by omega) (by omega) (by omega)) rfl rfl ?_
        generalize hw44 : e_up v1 (17 * a + y1 + 97) 7 0 = w44
        have hT46 : e_Has kCy w44 := e_Has.ups j4 hw44 (kCy_no2 (Or.inl (Or.inr (Or.inr (Or.inr (Or.inr (Or.inr (Or.inr (Or.inr (Or.inr (Or.inr (Or.inr (Or.inr (Or.inr (Or.inr (Or.inr (Or.inr (Or.inr ((by omega))))))))))))))))))) (kJ_7 (a := a) (j := y1) (by omega) (by omega) (by omega)) (by decide))
        refine e_Ok.ps1 (x := (1, 17 * a + 86)) (q := 19) 1 rfl ?_
        refine e_Ok.getr (z := 17 * a + 87) rfl (lA0 (a := a) rfl ga) rfl rfl (e_uq hw44 (Or.inr (by decide)) ((j3 (17 * a + 86) 0 (by first | exact no_d1_7 (by omega) | (unfold kAr; omega))).trans (Eq.trans (e_Has.eq hT (kCy_c (kA_0 (a := a) rfl ga))) (by omega)))) (by omega) ?_
        refine e_Ok.ps1 (x := (0, y1)) (q := 23) 1 rfl ?_
        refine e_Ok.aald (z := 17 * a + y1 + 97) rfl (lA1 (a := a) rfl ga) rfl (by omega) (e_uq hw44 (Or.inl (by omega)) ((j3 (17 * a + 87) y1 (by unfold kAr; omega)).trans (Eq.trans (e_Has.eq hT (kCy_c (kA87 (a := a) rfl ga (by omega)))) (by omega)))) (by omega) ?_
        refine e_Ok.ps1 (x := (0, 0)) (q := 25) 1 rfl ?_
        refine e_Ok.putf rfl (lJ (a := a) (j := y1) (by omega) (by omega) (by omega)) rfl rfl ?_
        generalize hw47 : e_up w44 (17 * a + y1 + 97) 9 0 = w47
        have hT49 : e_Has kCy w47 := e_Has.ups hT46 hw47 (kCy_no2 (Or.inl (Or.inr (Or.inr (Or.inr (Or.inr (Or.inr (Or.inr (Or.inr (Or.inr (Or.inr (Or.inr (Or.inr (Or.inr (Or.inr (Or.inr (Or.inr (Or.inr ((by omega))))))))))))))))))) (kJ_9 (a := a) (j := y1) (by omega) (by omega) (by omega)) (by decide))
        refine e_Ok.inc (z := y1 + 1) rfl rfl (by first | with_reducible rfl | omega) (by omega) ?_
        show e_Ok 20 elay kcode eI (d + 1) 3 (31, [(1, (0, y1 + 1)), (0, (1, 17 * a + 86))], [], w47) _
        refine e_Ok.ps0 (q := 2) 1 rfl ?_
        refine e_Ok.sub kAlk (e_sub_of rfl ?_) (ih2 (y1 + 1) w47 ⟨(show e_fr (kAr a) w w47 from e_fr.up (show e_fr (kAr a) w w44 from e_fr.up j3 hw44 (by unfold kAr; omega)) hw47 (by unfold kAr; omega)), hT49, (fun i g1 g2 => by by_cases e : i = y1; (rw [e]; exact ⟨(e_uq hw47 (Or.inr (by omega)) (e_ue hw44)), (e_ue hw47)⟩); (have z := j5 i g1 (by omega); exact ⟨by rw [← hw47, e_up_ne _ _ (by omega), ← hw44, e_up_ne _ _ (by omega)]; exact z.1, by rw [← hw47, e_up_ne _ _ (by omega), ← hw44, e_up_ne _ _ (by omega)]; exact z.2⟩)), by omega⟩ (by omega))
        exact ⟨rfl, rfl, trivial⟩
  refine e_Ok.sub kAlk (e_sub_of rfl ?_) (hL1 (6 + 1 : Int).toNat 0 w ⟨(e_fr.refl w), hT, (fun i g1 g2 => by omega), by omega⟩ (by omega))
  exact ⟨rfl, rfl, trivial⟩
theorem c_452_93k {d : Nat} {w : eW} (hT : e_Has kTy w) {a : Int} (g_a : 0 ≤ a ∧ a ≤ 3) : e_Ok 20 elay kcode eI d 452 (0, [(0, (1, 17 * a + 93)), (1, (0, 0))], [], w) (fun r w' => r = [] ∧ e_fr (kF93 a) w w' ∧ e_Has kTy w' ∧ (∀ k, 0 ≤ k → k < 32 → w' (17 * a + 93) k = 0)) := by
  refine e_Ok.run (t' := (3, [(2, (0, 0)), (0, (1, 17 * a + 93)), (1, (0, 0))], [(1, 17 * a + 93)], w)) 3 rfl ?_
  refine e_Ok.alen rfl (lA7 (a := a) rfl g_a) rfl ?_
  refine e_Ok.run (t' := (5, [(3, (0, 32)), (2, (0, 0)), (0, (1, 17 * a + 93)), (1, (0, 0))], [], w)) 1 rfl ?_
  have hL1 : ∀ (nn : Nat) (y2 : Int) (v1 : eW), e_fr (kF93 a) w v1 ∧ e_Has kTy v1 ∧ (∀ i, 0 ≤ i → i < y2 → v1 (17 * a + 93) i = 0) ∧ (0 ≤ y2 ∧ y2 ≤ 32) → 32 - y2 < nn → e_Ok 20 elay kcode eI d 452 (5, [(0, (1, 17 * a + 93)), (1, (0, 0)), (2, (0, y2)), (3, (0, 32))], [], v1) (fun r w' => r = [] ∧ e_fr (kF93 a) w w' ∧ e_Has kTy w' ∧ (∀ k, 0 ≤ k → k < 32 → w' (17 * a + 93) k = 0)) := by
    intro nn
    induction nn with
    | zero => intro y2 v1 hj hm; obtain ⟨j3, j4, j5, j6⟩ := hj; exfalso; omega
    | succ nn ih2 =>
      intro y2 v1 hj hm
      obtain ⟨j3, j4, j5, j6⟩ := hj
      refine e_Ok.run (t' := (7, [(0, (1, 17 * a + 93)), (1, (0, 0)), (2, (0, y2)), (3, (0, 32))], [(0, 32), (0, y2)], v1)) 2 rfl ?_
      refine e_Ok.if2 rfl (fun h7 => ?_) (fun h7 => ?_)
      · replace h7 : (y2 : Int) ≥ 32 := h7
        refine e_Ok.rets rfl rfl ?_
        exact ⟨rfl, j3, j4, fun k g1 g2 => j5 k g1 (by omega)⟩
      · replace h7 : (y2 : Int) < 32 := Int.not_le.mp (show ¬ ((y2 : Int) ≥ 32) from h7)
        refine e_Ok.ps3 (x := (0, 0)) (y := (0, y2)) (z := (1, 17 * a + 93)) (q := 13) 3 rfl ?_
        refine e_Ok.ast rfl (lA7 (a := a) rfl g_a) rfl rfl (by omega) ?_
        generalize hw8 : e_up v1 (17 * a + 93) y2 0 = w8
        have hT10 : e_Has kTy w8 := e_Has.upr j4 hw8 (kA93 (a := a) _ rfl g_a) (by omega)
        refine e_Ok.inc (z := y2 + 1) rfl rfl (by first | with_reducible rfl | omega) (by omega) ?_
        show e_Ok 20 elay kcode eI d 452 (17, [(2, (0, y2 + 1)), (0, (1, 17 * a + 93)), (1, (0, 0)), (3, (0, 32))], [], w8) _
        refine e_Ok.ps0 (q := 5) 1 rfl ?_
        refine e_Ok.sub kAlk (e_sub_of rfl ?_) (ih2 (y2 + 1) w8 ⟨(show e_fr (kF93 a) w w8 from e_fr.up j3 hw8 (by first | exact (by omega) | (unfold kF93; omega))), hT10, (fun i g1 g2 => by rw [← hw8]; by_cases e : i = y2; (rw [e, e_up_eq]); (rw [e_up_ne _ _ (Or.inr e)]; exact j5 i g1 (by omega))), by omega⟩ (by omega))
        exact ⟨rfl, rfl, rfl, rfl, trivial⟩
  refine e_Ok.sub kAlk (e_sub_of rfl ?_) (hL1 (32 + 1 : Int).toNat 0 w ⟨(e_fr.refl w), hT, (fun i g1 g2 => by omega), by omega⟩ (by omega))
  exact ⟨rfl, rfl, rfl, rfl, trivial⟩
theorem c_17_k {d : Nat} {w : eW} (hT : e_Has kTy w) {a : Int} (g_a : 0 ≤ a ∧ a ≤ 3) : e_Ok 20 elay kcode eI d 17 (0, [(0, (1, 17 * a + 86))], [], w) (fun r w' => r = [] ∧ e_fr (kSt a) w w' ∧ e_Has kTy w' ∧ (w' (17 * a + 86) 11 = 0 ∧ w' (17 * a + 86) 13 = -1 ∧ w' (17 * a + 86) 18 = -1) ∧ ∀ i, 0 ≤ i → i < 6 → w' (17 * a + i + 97) 8 = 0) := by
  refine e_Ok.ps2 (x := (0, 0)) (y := (1, 17 * a + 86)) (q := 2) 2 rfl ?_
  refine e_Ok.putf rfl (lA0 (a := a) rfl g_a) rfl rfl ?_
  generalize hw1 : e_up w (17 * a + 86) 11 0 = w1
  have hT3 : e_Has kTy w1 := e_Has.upr hT hw1 (kA_11 (a := a) rfl g_a) (by omega)
  refine e_Ok.ps2 (x := (0, (-1))) (y := (1, 17 * a + 86)) (q := 7) 2 rfl ?_
  refine e_Ok.putf rfl (lA0 (a := a) rfl g_a) rfl rfl ?_
  generalize hw4 : e_up w1 (17 * a + 86) 13 (-1) = w4
  have hT6 : e_Has kTy w4 := e_Has.upr hT3 hw4 (kA_13 (a := a) rfl g_a) (by omega)
  refine e_Ok.ps2 (x := (0, (-1))) (y := (1, 17 * a + 86)) (q := 12) 2 rfl ?_
  refine e_Ok.putf rfl (lA0 (a := a) rfl g_a) rfl rfl ?_
  generalize hw7 : e_up w4 (17 * a + 86) 18 (-1) = w7
  have hT9 : e_Has kTy w7 := e_Has.upr hT6 hw7 (kA_18 (a := a) rfl g_a) (by omega)
  refine e_Ok.run (t' := (17, [(1, (0, 0)), (0, (1, 17 * a + 86))], [], w7)) 2 rfl ?_
  have hL10 : ∀ (nn : Nat) (y1 : Int) (v1 : eW), e_fr (kSt a) w v1 ∧ e_Has kTy v1 ∧ (∀ i, 0 ≤ i → i < y1 → v1 (17 * a + i + 97) 8 = 0) ∧ v1 (17 * a + 86) 11 = 0 ∧ v1 (17 * a + 86) 13 = -1 ∧ v1 (17 * a + 86) 18 = -1 ∧ (0 ≤ y1 ∧ y1 ≤ 6) → 6 - y1 < nn → e_Ok 20 elay kcode eI d 17 (17, [(0, (1, 17 * a + 86)), (1, (0, y1))], [], v1) (fun r w' => r = [] ∧ e_fr (kSt a) w w' ∧ e_Has kTy w' ∧ (w' (17 * a + 86) 11 = 0 ∧ w' (17 * a + 86) 13 = -1 ∧ w' (17 * a + 86) 18 = -1) ∧ ∀ i, 0 ≤ i → i < 6 → w' (17 * a + i + 97) 8 = 0) := by
    intro nn
    induction nn with
    | zero => intro y1 v1 hj hm; obtain ⟨j12, j13, j14, j15, j16, j17, j18⟩ := hj; exfalso; omega
    | succ nn ih11 =>
      intro y1 v1 hj hm
      obtain ⟨j12, j13, j14, j15, j16, j17, j18⟩ := hj
      refine e_Ok.run (t' := (20, [(0, (1, 17 * a + 86)), (1, (0, y1))], [(0, 6), (0, y1)], v1)) 2 rfl ?_
      refine e_Ok.if2 rfl (fun h19 => ?_) (fun h19 => ?_)
      · replace h19 : (y1 : Int) ≥ 6 := h19
        refine e_Ok.rets rfl rfl ?_
        exact ⟨rfl, j12, j13, ⟨⟨j15, j16, j17⟩, fun i g1 g2 => j14 i g1 (by omega)⟩⟩
      · replace h19 : (y1 : Int) < 6 := Int.not_le.mp (show ¬ ((y1 : Int) ≥ 6) from h19)
        refine e_Ok.ps1 (x := (1, 17 * a + 86)) (q := 24) 1 rfl ?_
        refine e_Ok.getr (z := 17 * a + 87) rfl (lA0 (a := a) rfl g_a) rfl rfl ((j12 (17 * a + 86) 0 (by first | exact no_d1_0 (by omega) | (unfold kSt; omega))).trans (Eq.trans (e_Has.eq hT (kA_0 (a := a) rfl g_a)) (by omega))) (by omega) ?_
        refine e_Ok.ps1 (x := (0, y1)) (q := 28) 1 rfl ?_
        refine e_Ok.aald (z := 17 * a + y1 + 97) rfl (lA1 (a := a) rfl g_a) rfl (by omega) ((j12 (17 * a + 87) y1 (by unfold kSt; omega)).trans (Eq.trans (e_Has.eq hT (kA87 (a := a) rfl g_a (by omega))) (by omega))) (by omega) ?_
        refine e_Ok.ps1 (x := (0, 0)) (q := 30) 1 rfl ?_
        refine e_Ok.putf rfl (lJ (a := a) (j := y1) (by omega) (by omega) (by omega)) rfl rfl ?_
        generalize hw20 : e_up v1 (17 * a + y1 + 97) 8 0 = w20
        have hT22 : e_Has kTy w20 := e_Has.upr j13 hw20 (kJ_8 (a := a) (j := y1) (by omega) (by omega) (by omega)) (by omega)
        refine e_Ok.inc (z := y1 + 1) rfl rfl (by first | with_reducible rfl | omega) (by omega) ?_
        show e_Ok 20 elay kcode eI d 17 (36, [(1, (0, y1 + 1)), (0, (1, 17 * a + 86))], [], w20) _
        refine e_Ok.ps0 (q := 17) 1 rfl ?_
        refine e_Ok.sub kAlk (e_sub_of rfl ?_) (ih11 (y1 + 1) w20 ⟨(show e_fr (kSt a) w w20 from e_fr.up j12 hw20 (by unfold kSt; omega)), hT22, (fun i g1 g2 => by rw [← hw20]; by_cases e : i = y1; (rw [e]; exact e_up_eq _ _ _ _); (rw [e_up_ne _ _ (Or.inl (by omega))]; exact j14 i g1 (by omega))), (e_uq hw20 (Or.inl (by omega)) j15), (e_uq hw20 (Or.inl (by omega)) j16), (e_uq hw20 (Or.inl (by omega)) j17), by omega⟩ (by omega))
        exact ⟨rfl, rfl, trivial⟩
  refine e_Ok.sub kAlk (e_sub_of rfl ?_) (hL10 (6 + 1 : Int).toNat 0 w7 ⟨(show e_fr (kSt a) w w7 from e_fr.up (show e_fr (kSt a) w w4 from e_fr.up (show e_fr (kSt a) w w1 from e_fr.up (e_fr.refl w) hw1 (by first | exact Or.inl ⟨(by omega), Or.inl rfl⟩ | (unfold kSt; omega))) hw4 (by first | exact Or.inl ⟨(by omega), Or.inr (Or.inl rfl)⟩ | (unfold kSt; omega))) hw7 (by first | exact Or.inl ⟨(by omega), Or.inr (Or.inr rfl)⟩ | (unfold kSt; omega))), hT9, (fun i g1 g2 => by omega), (e_uq hw7 (Or.inr (by omega)) (e_uq hw4 (Or.inr (by omega)) (e_ue hw1))), (e_uq hw7 (Or.inr (by omega)) (e_ue hw4)), (e_ue hw7), by omega⟩ (by omega))
  exact ⟨rfl, rfl, trivial⟩
theorem c_11_k {d : Nat} {w : eW} (hT : e_Has kTy w) {a : Int} (g_a : 0 ≤ a ∧ a ≤ 3) (kx : aK w a) : e_Ok 20 elay kcode eI d 11 (0, [(0, (1, 17 * a + 86))], [], w) (fun r w' => r = [] ∧ e_fr (kOl a) w w' ∧ e_Has kTy w' ∧ oK w' a) := by
  have hjn := kn_joints hT (a := a) (by omega)
  refine e_Ok.run (t' := (2, [(1, (0, 0)), (0, (1, 17 * a + 86))], [], w)) 2 rfl ?_
  have hL1 : ∀ (nn : Nat) (y1 : Int) (v1 : eW), e_fr (kOl a) w v1 ∧ e_Has kTy v1 ∧ e_kn v1 (17 * a + 90) 0 (y1 - 1) ∧ e_kn v1 (17 * a + 91) 0 (y1 - 1) ∧ y1 ≤ w (17 * a + 86) 8 + 1 ∧ (0 ≤ y1 ∧ y1 ≤ 7) → 7 - y1 < nn → e_Ok 20 elay kcode eI d 11 (2, [(0, (1, 17 * a + 86)), (1, (0, y1))], [], v1) (fun r w' => r = [] ∧ e_fr (kOl a) w w' ∧ e_Has kTy w' ∧ oK w' a) := by
    intro nn
    induction nn with
    | zero => intro y1 v1 hj hm; obtain ⟨j3, j4, j5, j6, j7, j8⟩ := hj; exfalso; omega
    | succ nn ih2 =>
      intro y1 v1 hj hm
      obtain ⟨j3, j4, j5, j6, j7, j8⟩ := hj
      have l9 : v1 (17 * a + 86) 8 = w (17 * a + 86) 8 := j3 (17 * a + 86) 8 (by first | exact no_d1_1 (by omega) | (unfold kOl; omega))
      refine e_Ok.run (t' := (4, [(0, (1, 17 * a + 86)), (1, (0, y1))], [(1, 17 * a + 86), (0, y1)], v1)) 2 rfl ?_
      have h10 := (e_Has.get hT (c := 17 * a + 86) (k := 8) (lo := 0) (hi := 6) (kA_8 (a := a) rfl g_a) (by decide))
      refine e_Ok.getf (z := w (17 * a + 86) 8) rfl (lA0 (a := a) rfl g_a) rfl rfl ((j3 (17 * a + 86) 8 (by first | exact no_d1_1 (by omega) | (unfold kOl; omega))).trans rfl) (e_bq h10 (by decide) (by decide)) ?_
      refine e_Ok.if2 rfl (fun h11 => ?_) (fun h11 => ?_)
      · replace h11 : (y1 : Int) > w (17 * a + 86) 8 := h11
        refine e_Ok.rets rfl rfl ?_
        exact ⟨rfl, j3, j4, (by unfold oK; rw [(show v1 (17 * a + 86) 8 = w (17 * a + 86) 8 from j3 _ _ (by unfold kOl; omega))]; exact ⟨e_kn_sub j5 (by omega) (by omega), e_kn_sub j6 (by omega) (by omega)⟩)⟩
      · replace h11 : (y1 : Int) ≤ w (17 * a + 86) 8 := Int.not_lt.mp (show ¬ ((y1 : Int) > w (17 * a + 86) 8) from h11)
        refine e_Ok.ps1 (x := (1, 17 * a + 86)) (q := 11) 1 rfl ?_
        refine e_Ok.getr (z := 17 * a + 90) rfl (lA0 (a := a) rfl g_a) rfl rfl ((j3 (17 * a + 86) 3 (by first | exact no_d1_2 (by omega) | (unfold kOl; omega))).trans (Eq.trans (e_Has.eq hT (kA_3 (a := a) rfl g_a)) (by omega))) (by omega) ?_
        refine e_Ok.ps2 (x := (1, 17 * a + 86)) (y := (0, y1)) (q := 16) 2 rfl ?_
        refine e_Ok.getr (z := 17 * a + 88) rfl (lA0 (a := a) rfl g_a) rfl rfl ((j3 (17 * a + 86) 1 (by first | exact no_d1_3 (by omega) | (unfold kOl; omega))).trans (Eq.trans (e_Has.eq hT (kA_1 (a := a) rfl g_a)) (by omega))) (by omega) ?_
        refine e_Ok.ps1 (x := (0, y1)) (q := 20) 1 rfl ?_
        have h12 := (kx.1 y1 (by omega) (by omega))
        refine e_Ok.ald (z := w (17 * a + 88) y1) rfl (lA2 (a := a) rfl g_a) rfl (by omega) ((j3 (17 * a + 88) y1 (by unfold kOl; omega)).trans rfl) (by omega) ?_
        refine e_Ok.ast rfl (lA4 (a := a) rfl g_a) rfl rfl (by omega) ?_
        generalize hw13 : e_up v1 (17 * a + 90) y1 (w (17 * a + 88) y1) = w13
        have f14 : e_fr (kOl a) w w13 := e_fr.up j3 hw13 (by first | exact Or.inl (by omega) | (unfold kOl; omega))
        have l15 : w13 (17 * a + 86) 8 = w (17 * a + 86) 8 := f14 (17 * a + 86) 8 (by first | exact no_d1_1 (by omega) | (unfold kOl; omega))
        have hT16 : e_Has kTy w13 := e_Has.ups j4 hw13 (kA90 (a := a) _ rfl g_a)
        refine e_Ok.ps1 (x := (1, 17 * a + 86)) (q := 23) 1 rfl ?_
        refine e_Ok.getr (z := 17 * a + 91) rfl (lA0 (a := a) rfl g_a) rfl rfl (e_uq hw13 (Or.inl (e_neo (by decide))) ((j3 (17 * a + 86) 4 (by first | exact no_d1_4 (by omega) | (unfold kOl; omega))).trans (Eq.trans (e_Has.eq hT (kA_4 (a := a) rfl g_a)) (by omega)))) (by omega) ?_
        refine e_Ok.ps2 (x := (1, 17 * a + 86)) (y := (0, y1)) (q := 28) 2 rfl ?_
        refine e_Ok.getr (z := 17 * a + 89) rfl (lA0 (a := a) rfl g_a) rfl rfl (e_uq hw13 (Or.inl (e_neo (by decide))) ((j3 (17 * a + 86) 2 (by first | exact no_d1_5 (by omega) | (unfold kOl; omega))).trans (Eq.trans (e_Has.eq hT (kA_2 (a := a) rfl g_a)) (by omega)))) (by omega) ?_
        refine e_Ok.ps1 (x := (0, y1)) (q := 32) 1 rfl ?_
        have h17 := (kx.2 y1 (by omega) (by omega))
        refine e_Ok.ald (z := w (17 * a + 89) y1) rfl (lA3 (a := a) rfl g_a) rfl (by omega) (e_uq hw13 (Or.inl (e_neo (by decide))) ((j3 (17 * a + 89) y1 (by unfold kOl; omega)).trans rfl)) (by omega) ?_
        refine e_Ok.ast rfl (lA5 (a := a) rfl g_a) rfl rfl (by omega) ?_
        generalize hw18 : e_up w13 (17 * a + 91) y1 (w (17 * a + 89) y1) = w18
        have f19 : e_fr (kOl a) w w18 := e_fr.up f14 hw18 (by first | exact Or.inr (by omega) | (unfold kOl; omega))
        have l20 : w18 (17 * a + 86) 8 = w (17 * a + 86) 8 := f19 (17 * a + 86) 8 (by first | exact no_d1_1 (by omega) | (unfold kOl; omega))
        have hT21 : e_Has kTy w18 := e_Has.ups hT16 hw18 (kA91 (a := a) _ rfl g_a)
        refine e_Ok.inc (z := y1 + 1) rfl rfl (by first | with_reducible rfl | omega) (by omega) ?_
        show e_Ok 20 elay kcode eI d 11 (37, [(1, (0, y1 + 1)), (0, (1, 17 * a + 86))], [], w18) _
        refine e_Ok.ps0 (q := 2) 1 rfl ?_
        refine e_Ok.sub kAlk (e_sub_of rfl ?_) (ih2 (y1 + 1) w18 ⟨f19, hT21, (e_kn_sub (e_kn.oth (e_kn.ext j5 hw13 (by omega) (by omega)) hw18 (by omega)) (by omega) (by omega)), (e_kn_sub (e_kn.ext (e_kn.oth j6 hw13 (by omega)) hw18 (by omega) (by omega)) (by omega) (by omega)), by omega, by omega⟩ (by omega))
        exact ⟨rfl, rfl, trivial⟩
  refine e_Ok.sub kAlk (e_sub_of rfl ?_) (hL1 (7 + 1 : Int).toNat 0 w ⟨(e_fr.refl w), hT, (fun i g1 g2 => by omega), (fun i g1 g2 => by omega), by omega, by omega⟩ (by omega))
  exact ⟨rfl, rfl, trivial⟩
set_option maxHeartbeats 4000000 in
theorem c_3_k {d : Nat} (hd : 24 ≤ d) {w : eW} (hT : e_Has kTy w) {a : Int} (ga : 0 ≤ a ∧ a ≤ 3) (hx : kn1 (w (17 * a + 88) 0)) (hy : kn1 (w (17 * a + 89) 0)) : e_Ok 20 elay kcode eI d 3 (0, [(0, (1, 17 * a + 86))], [], w) (fun r w' => r = [] ∧ e_fr (kAr a) w w' ∧ e_Has kTy w' ∧ aR0 w' a ∧ aP w' a) := by
  obtain ⟨d, rfl⟩ : ∃ e, d = e + 1 := ⟨d - 1, by omega⟩
  refine e_Ok.run (t' := (2, [(1, (0, 0)), (0, (1, 17 * a + 86))], [], w)) 2 rfl ?_
  have hL1 : ∀ (nn : Nat) (y1 : Int) (v1 : eW), e_fr (kAr a) w v1 ∧ e_Has kTy v1 ∧ (∀ i, 0 ≤ i → i < y1 → v1 (17 * a + i + 97) 7 = 0 ∧ v1 (17 * a + i + 97) 9 = 0) ∧ (0 ≤ y1 ∧ y1 ≤ 6) → 6 - y1 < nn → e_Ok 20 elay kcode eI (d + 1) 3 (2, [(0, (1, 17 * a + 86)), (1, (0, y1))], [], v1) (fun r w' => r = [] ∧ e_fr (kAr a) w w' ∧ e_Has kTy w' ∧ aR0 w' a ∧ aP w' a) := by
    intro nn
    induction nn with
    | zero => intro y1 v1 hj hm; obtain ⟨j3, j4, j5, j6⟩ := hj; exfalso; omega
    | succ nn ih2 =>
      intro y1 v1 hj hm
      obtain ⟨j3, j4, j5, j6⟩ := hj
      refine e_Ok.run (t' := (5, [(0, (1, 17 * a + 86)), (1, (0, y1))], [(0, 6), (0, y1)], v1)) 2 rfl ?_
      refine e_Ok.if2 rfl (fun h7 => ?_) (fun h7 => ?_)
      · replace h7 : (y1 : Int) ≥ 6 := h7
        refine e_Ok.ps1 (x := (1, 17 * a + 86)) (q := 35) 1 rfl ?_
        refine e_Ok.getr (z := 17 * a + 93) rfl (lA0 (a := a) rfl ga) rfl rfl ((j3 (17 * a + 86) 6 (by first | exact no_d1_6 (by omega) | (unfold kAr; omega))).trans (Eq.trans (e_Has.eq hT (kA_6 (a := a) rfl ga)) (by omega))) (by omega) ?_
        refine e_Ok.ps1 (x := (0, 0)) (q := 39) 1 rfl ?_
        refine e_Ok.callS rfl (e_dq hd rfl) rfl rfl (c_452_93k (a := a) j4 (by omega)) (fun r8 w9 h10 => ?_)
        obtain ⟨rfl, q11f, q11T, q11x⟩ := h10
        refine e_Ok.nrm (q := 42) (st' := []) rfl rfl ?_
        refine e_Ok.ps1 (x := (1, 17 * a + 86)) (q := 43) 1 rfl ?_
        refine e_Ok.callV rfl (e_dq hd rfl) rfl (lA0 (a := a) rfl ga) rfl rfl (c_17_k (a := a) q11T (by omega)) (fun r13 w14 h15 => ?_)
        obtain ⟨rfl, q16f, q16T, q16x⟩ := h15
        refine e_Ok.nrm (q := 46) (st' := []) rfl rfl ?_
        refine e_Ok.ps2 (x := (0, (-1))) (y := (1, 17 * a + 86)) (q := 48) 2 rfl ?_
        refine e_Ok.putf rfl (lA0 (a := a) rfl ga) rfl rfl ?_
        generalize hw18 : e_up w14 (17 * a + 86) 14 (-1) = w18
        have hT20 : e_Has kTy w18 := e_Has.upr q16T hw18 (kA_14 (a := a) rfl ga) (by omega)
        refine e_Ok.ps2 (x := (0, 0)) (y := (1, 17 * a + 86)) (q := 53) 2 rfl ?_
        refine e_Ok.putf rfl (lA0 (a := a) rfl ga) rfl rfl ?_
        generalize hw21 : e_up w18 (17 * a + 86) 15 0 = w21
        have hT23 : e_Has kTy w21 := e_Has.upr hT20 hw21 (kA_15 (a := a) rfl ga) (by omega)
        refine e_Ok.ps2 (x := (0, (-1))) (y := (1, 17 * a + 86)) (q := 58) 2 rfl ?_
        refine e_Ok.putf rfl (lA0 (a := a) rfl ga) rfl rfl ?_
        generalize hw24 : e_up w21 (17 * a + 86) 16 (-1) = w24
        have hT26 : e_Has kTy w24 := e_Has.upr hT23 hw24 (kA_16 (a := a) rfl ga) (by omega)
        refine e_Ok.ps2 (x := (0, (-1))) (y := (1, 17 * a + 86)) (q := 63) 2 rfl ?_
        refine e_Ok.putf rfl (lA0 (a := a) rfl ga) rfl rfl ?_
        generalize hw27 : e_up w24 (17 * a + 86) 17 (-1) = w27
        have hT29 : e_Has kTy w27 := e_Has.upr hT26 hw27 (kA_17 (a := a) rfl ga) (by omega)
        refine e_Ok.ps2 (x := (0, 0)) (y := (1, 17 * a + 86)) (q := 68) 2 rfl ?_
        refine e_Ok.putf rfl (lA0 (a := a) rfl ga) rfl rfl ?_
        generalize hw30 : e_up w27 (17 * a + 86) 19 0 = w30
        have f31 : e_fr (kAr a) w w30 := e_fr.up (show e_fr (kAr a) w w27 from e_fr.up (show e_fr (kAr a) w w24 from e_fr.up (show e_fr (kAr a) w w21 from e_fr.up (show e_fr (kAr a) w w18 from e_fr.up (show e_fr (kAr a) w w14 from e_fr.trans (show e_fr (kAr a) w w9 from e_fr.trans j3 (e_fr.mono q11f (fun c k q => by first | exact su_d1_8 q | (unfold kF93 at q; unfold kAr; omega)))) (e_fr.mono q16f (fun c k q => by first | exact su_d1_9 q | (unfold kSt at q; unfold kAr; omega)))) hw18 (by first | exact Or.inl ⟨(by omega), Or.inr ⟨(by decide), (by decide)⟩⟩ | (unfold kAr; omega))) hw21 (by first | exact Or.inl ⟨(by omega), Or.inr ⟨(by decide), (by decide)⟩⟩ | (unfold kAr; omega))) hw24 (by first | exact Or.inl ⟨(by omega), Or.inr ⟨(by decide), (by decide)⟩⟩ | (unfold kAr; omega))) hw27 (by first | exact Or.inl ⟨(by omega), Or.inr ⟨(by decide), (by decide)⟩⟩ | (unfold kAr; omega))) hw30 (by first | exact Or.inl ⟨(by omega), Or.inr ⟨(by decide), (by decide)⟩⟩ | (unfold kAr; omega))
        have hT32 : e_Has kTy w30 := e_Has.upr hT29 hw30 (kA_19 (a := a) rfl ga) (by omega)
        have eS : ∀ c k, ¬ (c = 17 * a + 86 ∧ 14 ≤ k) → w30 c k = w14 c k := fun c k g => by rw [← hw30, e_up_ne _ _ (by omega), ← hw27, e_up_ne _ _ (by omega), ← hw24, e_up_ne _ _ (by omega), ← hw21, e_up_ne _ _ (by omega), ← hw18, e_up_ne _ _ (by omega)]
        have jv : ∀ j, 0 ≤ j → j < 6 → w30 (17 * a + j + 97) 7 = 0 ∧ w30 (17 * a + j + 97) 8 = 0 ∧ w30 (17 * a + j + 97) 9 = 0 := fun j g1 g2 => by
          have z := j5 j g1 (by omega)
          rw [eS _ _ (by omega), eS _ _ (by omega), eS _ _ (by omega), q16f _ 7 (by unfold kSt; omega), q16f _ 9 (by unfold kSt; omega), q11f _ _ (by unfold kF93; omega), q11f _ _ (by unfold kF93; omega)]
          exact ⟨z.1, q16x.2 j g1 g2, z.2⟩
        have vv : ∀ k, 0 ≤ k → k < 32 → w30 (17 * a + 93) k = 0 := fun k g1 g2 => by rw [eS _ _ (by omega), q16f _ _ (by unfold kSt; omega)]; exact q11x k g1 g2
        have a11 : w30 (17 * a + 86) 11 = 0 := by rw [eS _ _ (by omega)]; exact q16x.1.1
        have a13 : w30 (17 * a + 86) 13 = -1 := by rw [eS _ _ (by omega)]; exact q16x.1.2.1
        have a18 : w30 (17 * a + 86) 18 = -1 := by rw [← hw30, e_up_ne _ _ (by omega), ← hw27, e_up_ne _ _ (by omega), ← hw24, e_up_ne _ _ (by omega), ← hw21, e_up_ne _ _ (by omega), ← hw18, e_up_ne _ _ (by omega)]; exact q16x.1.2.2
        have a14 : w30 (17 * a + 86) 14 = (-1) := (e_uq hw30 (Or.inr (by decide)) (e_uq hw27 (Or.inr (by decide)) (e_uq hw24 (Or.inr (by decide)) (e_uq hw21 (Or.inr (by decide)) (e_ue hw18)))))
        have a15 : w30 (17 * a + 86) 15 = 0 := (e_uq hw30 (Or.inr (by decide)) (e_uq hw27 (Or.inr (by decide)) (e_uq hw24 (Or.inr (by decide)) (e_ue hw21))))
        have a16 : w30 (17 * a + 86) 16 = (-1) := (e_uq hw30 (Or.inr (by decide)) (e_uq hw27 (Or.inr (by decide)) (e_ue hw24)))
        have a17 : w30 (17 * a + 86) 17 = (-1) := (e_uq hw30 (Or.inr (by decide)) (e_ue hw27))
        have a19 : w30 (17 * a + 86) 19 = 0 := (e_ue hw30)
        refine e_Ok.run (t' := (72, [(0, (1, 17 * a + 86)), (1, (0, y1))], [(1, 17 * a + 86)], w30)) 1 rfl ?_
        refine e_Ok.callV rfl (e_dq hd rfl) rfl (lA0 (a := a) rfl ga) rfl rfl (c_10_p (e_dq hd rfl) (a := a) hT32 (by omega) (by rw [f31 _ _ (by unfold kAr; omega)]; exact hx) (by rw [f31 _ _ (by unfold kAr; omega)]; exact hy)) (fun r33 w34 h35 => ?_)
        obtain ⟨rfl, q36f, q36T, q36x, q36p⟩ := h35
        refine e_Ok.nrm (q := 75) (st' := []) rfl rfl ?_
        refine e_Ok.ps1 (x := (1, 17 * a + 86)) (q := 76) 1 rfl ?_
        refine e_Ok.callV rfl (e_dq hd rfl) rfl (lA0 (a := a) rfl ga) rfl rfl (c_11_k (a := a) q36T (by omega) q36x) (fun r38 w40 h41 => ?_)
        obtain ⟨rfl, q42f, q42T, q42x⟩ := h41
        refine e_Ok.nrm (q := 79) (st' := []) rfl rfl ?_
        refine e_Ok.rets rfl rfl ?_
        exact ⟨rfl, (show e_fr (kAr a) w w40 from e_fr.trans (show e_fr (kAr a) w w34 from e_fr.trans f31 (e_fr.mono q36f (fun c k q => by first | exact su_d1_10 q | (unfold kPl at q; unfold kAr; omega)))) (e_fr.mono q42f (fun c k q => by first | exact su_d1_11 q | (unfold kOl at q; unfold kAr; omega)))), q42T, ⟨⟨(by rw [q42f _ _ (by unfold kOl; omega), q36f _ _ (by unfold kPl; omega)]; exact a11), (by rw [q42f _ _ (by unfold kOl; omega), q36f _ _ (by unfold kPl; omega)]; exact a13), (by rw [q42f _ _ (by unfold kOl; omega), q36f _ _ (by unfold kPl; omega)]; exact a14), (by rw [q42f _ _ (by unfold kOl; omega), q36f _ _ (by unfold kPl; omega)]; exact a15), (by rw [q42f _ _ (by unfold kOl; omega), q36f _ _ (by unfold kPl; omega)]; exact a16), (by rw [q42f _ _ (by unfold kOl; omega), q36f _ _ (by unfold kPl; omega)]; exact a17), (by rw [q42f _ _ (by unfold kOl; omega), q36f _ _ (by unfold kPl; omega)]; exact a18), (by rw [q42f _ _ (by unfold kOl; omega), q36f _ _ (by unfold kPl; omega)]; exact a19)⟩, (fun j g1 g2 => by have z := jv j g1 g2; rw [q42f _ 7 (by unfold kOl; omega), q36f _ 7 (by unfold kPl; omega), q42f _ 8 (by unfold kOl; omega), q36f _ 8 (by unfold kPl; omega), q42f _ 9 (by unfold kOl; omega), q36f _ 9 (by unfold kPl; omega)]; exact z), (fun k g1 g2 => by rw [q42f _ _ (by unfold kOl; omega), q36f _ _ (by unfold kPl; omega)]; exact vv k g1 g2), q36x.eq (fun c k g => q42f c k (by unfold kOl; omega)), q42x⟩, aQ.q (q42f.mono (fun c k q => nq_kOl (by omega) q)) q36T q42T a ga.1 ga.2 q36p⟩
      · replace h7 : (y1 : Int) < 6 := Int.not_le.mp (show ¬ ((y1 : Int) ≥ 6) from h7)
        refine e_Ok.ps1 (x := (1, 17 * a + 86)) (q := 9) 1 rfl ?_
        refine e_Ok.getr (z := 17 * a + 87) rfl (lA0 (a := a) rfl ga) rfl rfl ((j3 (17 * a + 86) 0 (by first | exact no_d1_7 (by omega) | (unfold kAr; omega))).trans (Eq.trans (e_Has.eq hT (kA_0 (a := a) rfl ga)) (by omega))) (by omega) ?_
        refine e_Ok.ps1 (x := (0, y1)) (q := 13) 1 rfl ?_
        refine e_Ok.aald (z := 17 * a + y1 + 97) rfl (lA1 (a := a) rfl ga) rfl (by omega) ((j3 (17 * a + 87) y1 (by unfold kAr; omega)).trans (Eq.trans (e_Has.eq hT (kA87 (a := a) rfl ga (by omega))) (by omega))) (by omega) ?_
        refine e_Ok.ps1 (x := (0, 0)) (q := 15) 1 rfl ?_
        refine e_Ok.putf rfl (lJ (a := a) (j := y1) (by omega) (by omega) (by omega)) rfl rfl ?_
        generalize hw44 : e_up v1 (17 * a + y1 + 97) 7 0 = w44
        have hT46 : e_Has kTy w44 := e_Has.upr j4 hw44 (kJ_7 (a := a) (j := y1) (by omega) (by omega) (by omega)) (by omega)
        refine e_Ok.ps1 (x := (1, 17 * a + 86)) (q := 19) 1 rfl ?_
        refine e_Ok.getr (z := 17 * a + 87) rfl (lA0 (a := a) rfl ga) rfl rfl (e_uq hw44 (Or.inr (by decide)) ((j3 (17 * a + 86) 0 (by first | exact no_d1_7 (by omega) | (unfold kAr; omega))).trans (Eq.trans (e_Has.eq hT (kA_0 (a := a) rfl ga)) (by omega)))) (by omega) ?_
        refine e_Ok.ps1 (x := (0, y1)) (q := 23) 1 rfl ?_
        refine e_Ok.aald (z := 17 * a + y1 + 97) rfl (lA1 (a := a) rfl ga) rfl (by omega) (e_uq hw44 (Or.inl (by omega)) ((j3 (17 * a + 87) y1 (by unfold kAr; omega)).trans (Eq.trans (e_Has.eq hT (kA87 (a := a) rfl ga (by omega))) (by omega)))) (by omega) ?_
        refine e_Ok.ps1 (x := (0, 0)) (q := 25) 1 rfl ?_
        refine e_Ok.putf rfl (lJ (a := a) (j := y1) (by omega) (by omega) (by omega)) rfl rfl ?_
        generalize hw47 : e_up w44 (17 * a + y1 + 97) 9 0 = w47
        have hT49 : e_Has kTy w47 := e_Has.upr hT46 hw47 (kJ_9 (a := a) (j := y1) (by omega) (by omega) (by omega)) (by omega)
        refine e_Ok.inc (z := y1 + 1) rfl rfl (by first | with_reducible rfl | omega) (by omega) ?_
        show e_Ok 20 elay kcode eI (d + 1) 3 (31, [(1, (0, y1 + 1)), (0, (1, 17 * a + 86))], [], w47) _
        refine e_Ok.ps0 (q := 2) 1 rfl ?_
        refine e_Ok.sub kAlk (e_sub_of rfl ?_) (ih2 (y1 + 1) w47 ⟨(show e_fr (kAr a) w w47 from e_fr.up (show e_fr (kAr a) w w44 from e_fr.up j3 hw44 (by unfold kAr; omega)) hw47 (by unfold kAr; omega)), hT49, (fun i g1 g2 => by by_cases e : i = y1; (rw [e]; exact ⟨(e_uq hw47 (Or.inr (by omega)) (e_ue hw44)), (e_ue hw47)⟩); (have z := j5 i g1 (by omega); exact ⟨by rw [← hw47, e_up_ne _ _ (by omega), ← hw44, e_up_ne _ _ (by omega)]; exact z.1, by rw [← hw47, e_up_ne _ _ (by omega), ← hw44, e_up_ne _ _ (by omega)]; exact z.2⟩)), by omega⟩ (by omega))
        exact ⟨rfl, rfl, trivial⟩
  refine e_Ok.sub kAlk (e_sub_of rfl ?_) (hL1 (6 + 1 : Int).toNat 0 w ⟨(e_fr.refl w), hT, (fun i g1 g2 => by omega), by omega⟩ (by omega))
  exact ⟨rfl, rfl, trivial⟩
end
end
-- part d2
section
noncomputable section
/-! the class: the floor is as at the beginning -/
section D2
variable {w w' : eW}
/-- the parts below n are put where they were told -/
def fKn (w : eW) (n : Int) : Prop := (∀ b, 0 ≤ b → b < w 19 0 → (0 ≤ w 35 b ∧ w 35 b ≤ n) ∧ ∀ i, 0 ≤ i → i < w 35 b → (0 ≤ w (b + 31) i ∧ w (b + 31) i < n) ∧ w 36 (w (b + 31) i) = b) ∧ ∀ p, 0 ≤ p → p < n → fP w p
theorem fKn.fK {n : Int} (h : fKn w n) (hn : w 19 1 = n) (h2 : n ≤ 32) : fK w := by
  refine ⟨fun b g1 g2 => ?_, fun p g1 g2 => h.2 p g1 (by omega)⟩
  have q := h.1 b g1 g2
  unfold fO
  rw [hn]
  exact ⟨⟨q.1.1, by omega⟩, q.2⟩
theorem fKn.ord {n b : Int} (h : fKn w n) (hb : 0 ≤ b ∧ b < w 19 0) (hB : w 19 0 ≤ 4) (hn : n < 32) : (0 ≤ w 35 b ∧ w 35 b ≤ 32) ∧ ∀ i, 0 ≤ i → i < w 35 b → (0 ≤ w (b + 31) i ∧ w (b + 31) i ≤ 31) ∧ kn1 (w 37 (w (b + 31) i)) := by
  have q := h.1 b hb.1 hb.2
  refine ⟨⟨q.1.1, by omega⟩, fun i g1 g2 => ?_⟩
  have z := q.2 i g1 g2
  have y := h.2 _ z.1.1 z.1.2
  exact ⟨⟨z.1.1, by omega⟩, (y.2.1 (by omega)).2⟩
theorem fP.eq {p : Int} (h : ∀ c k, (c = 36 ∨ c = 37 ∨ c = 39 ∨ c = 40) → k = p → w' c k = w c k) (h0 : w' 19 0 = w 19 0) (q : fP w p) : fP w' p := by
  unfold fP at q ⊢
  rw [h 36 p (by omega) rfl, h 37 p (by omega) rfl, h 39 p (by omega) rfl, h 40 p (by omega) rfl, h0]
  exact q
theorem fKn.come {n b s : Int} (h : fKn w n) (hb : 0 ≤ b ∧ b < w 19 0) (hB : w 19 0 ≤ 4) (hn : 0 ≤ n ∧ n < 32) (hs : kn1 s) (hc : cmT w w' b n s) : fKn w' (n + 1) := by
  have qb := h.1 b hb.1 hb.2
  rcases hc with ⟨g, -⟩ | ⟨-, ⟨e1, e2, e3⟩, e4, e5⟩
  · omega
  have e0 : w' 19 0 = w 19 0 := e4 19 0 (by omega) (by omega) (by omega) (by omega)
  refine ⟨fun b' g1 g2 => ?_, fun p g1 g2 => ?_⟩
  · rw [e0] at g2
    by_cases e : b' = b
    · rw [e, e1]
      refine ⟨by omega, fun i g3 g4 => ?_⟩
      rcases e5 i g3 (by omega) with g5 | ⟨j, g5, g6⟩
      · rw [g5]
        exact ⟨by omega, e2⟩
      · rw [g6]
        have z := qb.2 j g5.1 g5.2
        rw [e4 36 _ (by omega) (by omega) (by omega) (by omega)]
        exact ⟨by omega, z.2⟩
    · have q := h.1 b' g1 g2
      rw [e4 35 b' (by omega) (by omega) (by omega) (by omega)]
      refine ⟨by omega, fun i g3 g4 => ?_⟩
      have z := q.2 i g3 g4
      rw [e4 (b' + 31) i (by omega) (by omega) (by omega) (by omega), e4 36 _ (by omega) (by omega) (by omega) (by omega)]
      exact ⟨by omega, z.2⟩
  · by_cases e : p = n
    · rw [e]
      unfold fP
      rw [e2, e3, e0]
      exact ⟨by omega, fun _ => ⟨hb.2, hs⟩, fun g => by omega⟩
    · exact (h.2 p g1 (by omega)).eq (fun c k g3 g4 => e4 c k (by omega) (by omega) (by omega) (by omega)) e0
theorem fKn.lie {n x y : Int} {w1 w2 : eW} (h : fKn w n) (hB : w 19 0 ≤ 4) (hn : 0 ≤ n) (hx : kn1 x) (hy : kn1 y) (h1 : e_up w 36 n 8 = w1) (h2 : e_up w1 39 n x = w2) (h3 : e_up w2 40 n y = w') : fKn w' (n + 1) := by
  have e4 : ∀ c k, ¬ ((c = 36 ∨ c = 39 ∨ c = 40) ∧ k = n) → w' c k = w c k := fun c k g => by rw [← h3, e_up_ne _ _ (by omega), ← h2, e_up_ne _ _ (by omega), ← h1, e_up_ne _ _ (by omega)]
  have e36 : w' 36 n = 8 := by rw [← h3, e_up_ne _ _ (by omega), ← h2, e_up_ne _ _ (by omega), ← h1, e_up_eq]
  have e39 : w' 39 n = x := by rw [← h3, e_up_ne _ _ (by omega), ← h2, e_up_eq]
  have e40 : w' 40 n = y := by rw [← h3, e_up_eq]
  have e0 : w' 19 0 = w 19 0 := e4 19 0 (by omega)
  refine ⟨fun b g1 g2 => ?_, fun p g1 g2 => ?_⟩
  · rw [e0] at g2
    have q := h.1 b g1 g2
    rw [e4 35 b (by omega)]
    refine ⟨by omega, fun i g3 g4 => ?_⟩
    have z := q.2 i g3 g4
    rw [e4 (b + 31) i (by omega), e4 36 _ (by omega)]
    exact ⟨by omega, z.2⟩
  · by_cases e : p = n
    · rw [e]
      unfold fP
      rw [e36, e39, e40]
      exact ⟨by decide, fun g => absurd g (by decide), fun _ => ⟨hx, hy⟩⟩
    · exact (h.2 p g1 (by omega)).eq (fun c k g3 g4 => e4 c k (by omega)) e0
end D2
theorem c_79_z {d : Nat} {w : eW} (hT : e_Has kCy w) {p x y : Int} (gp : 0 ≤ p ∧ p ≤ 31) (gx : -2147483648 ≤ x ∧ x ≤ 2147483647) (gy : -2147483648 ≤ y ∧ y ≤ 2147483647) : e_Ok 20 elay kcode eI d 79 (0, [(0, (1, 19)), (1, (0, p)), (2, (0, x)), (3, (0, y))], [], w) (fun r w' => r = [] ∧ e_fr kFl w w' ∧ e_Has kCy w' ∧ ∃ z8 w1 w2, z8 = 8 ∧ e_up w 36 p z8 = w1 ∧ e_up w1 39 p x = w2 ∧ e_up w2 40 p y = w') := by
  refine e_Ok.ps1 (x := (1, 19)) (q := 1) 1 rfl ?_
  refine e_Ok.getr (z := 36) rfl (el_o rfl) rfl rfl (Eq.trans (e_Has.eq hT (kCy_c rfl)) (by omega)) ⟨by decide, by decide⟩ ?_
  refine e_Ok.ps2 (x := (0, 8)) (y := (0, p)) (q := 7) 2 rfl ?_
  refine e_Ok.ast rfl (el_o rfl) rfl rfl (by omega) ?_
  generalize hw1 : e_up w 36 p 8 = w1
  have hT3 : e_Has kCy w1 := e_Has.ups hT hw1 (kCy_no1 rfl)
  refine e_Ok.ps1 (x := (1, 19)) (q := 9) 1 rfl ?_
  refine e_Ok.getr (z := 39) rfl (el_o rfl) rfl rfl (e_uq hw1 (Or.inl (by decide)) (Eq.trans (e_Has.eq hT (kCy_c rfl)) (by omega))) ⟨by decide, by decide⟩ ?_
  refine e_Ok.ps2 (x := (0, x)) (y := (0, p)) (q := 14) 2 rfl ?_
  refine e_Ok.ast rfl (el_o rfl) rfl rfl (by omega) ?_
  generalize hw4 : e_up w1 39 p x = w4
  have hT6 : e_Has kCy w4 := e_Has.ups hT3 hw4 (kCy_no1 rfl)
  refine e_Ok.ps1 (x := (1, 19)) (q := 16) 1 rfl ?_
  refine e_Ok.getr (z := 40) rfl (el_o rfl) rfl rfl (e_uq hw4 (Or.inl (by decide)) (e_uq hw1 (Or.inl (by decide)) (Eq.trans (e_Has.eq hT (kCy_c rfl)) (by omega)))) ⟨by decide, by decide⟩ ?_
  refine e_Ok.ps2 (x := (0, y)) (y := (0, p)) (q := 21) 2 rfl ?_
  refine e_Ok.ast rfl (el_o rfl) rfl rfl (by omega) ?_
  generalize hw7 : e_up w4 40 p y = w7
  have hT9 : e_Has kCy w7 := e_Has.ups hT6 hw7 (kCy_no1 rfl)
  refine e_Ok.rets rfl rfl ?_
  exact ⟨rfl, (show e_fr kFl w w7 from e_fr.up (show e_fr kFl w w4 from e_fr.up (show e_fr kFl w w1 from e_fr.up (e_fr.refl w) hw1 (by first | exact Or.inl ⟨(by decide), (by decide)⟩ | (unfold kFl; omega))) hw4 (by first | exact Or.inr (Or.inl rfl) | (unfold kFl; omega))) hw7 (by first | exact Or.inr (Or.inr rfl) | (unfold kFl; omega))), hT9, 8, _, _, rfl, hw1, hw4, hw7⟩
theorem no_d2_0 {k : Int} : ¬ kFl 19 k := by unfold kFl; omega
theorem no_d2_1 {k : Int} : ¬ kFl 30 k := by unfold kFl; omega
theorem c_80_z {d : Nat} {w : eW} (hT : e_Has kCy w) {b p s : Int} (g_b : 0 ≤ b ∧ b ≤ 3) (g_p : 0 ≤ p ∧ p ≤ 31) (g_s : (-2147483648) ≤ s ∧ s ≤ 2147483647) (hO : (0 ≤ w 35 b ∧ w 35 b ≤ 32) ∧ ∀ i, 0 ≤ i → i < w 35 b → (0 ≤ w (b + 31) i ∧ w (b + 31) i ≤ 31) ∧ kn1 (w 37 (w (b + 31) i))) : e_Ok 20 elay kcode eI d 80 (0, [(0, (1, 19)), (1, (0, b)), (2, (0, p)), (3, (0, s))], [], w) (fun r w' => r = [] ∧ e_fr kFl w w' ∧ e_Has kCy w' ∧ cmT w w' b p s) := by
  refine e_Ok.ps1 (x := (1, 19)) (q := 1) 1 rfl ?_
  refine e_Ok.getr (z := 35) rfl (el_o rfl) rfl rfl (Eq.trans (e_Has.eq hT (kCy_c rfl)) (by omega)) ⟨by decide, by decide⟩ ?_
  refine e_Ok.ps1 (x := (0, b)) (q := 5) 1 rfl ?_
  refine e_Ok.ald (z := w 35 b) rfl (el_o rfl) rfl (by omega) rfl (by omega) ?_
  refine e_Ok.ps1 (x := (0, 32)) (q := 8) 1 rfl ?_
  refine e_Ok.if2 rfl (fun h1 => ?_) (fun h1 => ?_)
  · replace h1 : (w 35 b : Int) < 32 := h1
    refine e_Ok.ps1 (x := (1, 19)) (q := 13) 1 rfl ?_
    refine e_Ok.getr (z := 35) rfl (el_o rfl) rfl rfl (Eq.trans (e_Has.eq hT (kCy_c rfl)) (by omega)) ⟨by decide, by decide⟩ ?_
    refine e_Ok.ps1 (x := (0, b)) (q := 17) 1 rfl ?_
    refine e_Ok.ald (z := w 35 b) rfl (el_o rfl) rfl (by omega) rfl (by omega) ?_
    refine e_Ok.run (t' := (20, [(4, (0, w 35 b)), (0, (1, 19)), (1, (0, b)), (2, (0, p)), (3, (0, s))], [], w)) 1 rfl ?_
    have hL2 : ∀ (nn : Nat) (y4 : Int) (v1 : eW), e_fr kFl w v1 ∧ e_Has kCy v1 ∧ (∀ c k, c ≠ b + 31 → v1 c k = w c k) ∧ (∀ j, 0 ≤ j → j < y4 → v1 (b + 31) j = w (b + 31) j) ∧ (∀ j, y4 < j → j ≤ w 35 b → v1 (b + 31) j = w (b + 31) (j - 1)) ∧ y4 ≤ w 35 b ∧ (0 ≤ y4 ∧ y4 ≤ 32) → y4 < nn → e_Ok 20 elay kcode eI d 80 (20, [(0, (1, 19)), (1, (0, b)), (2, (0, p)), (3, (0, s)), (4, (0, y4))], [], v1) (fun r w' => r = [] ∧ e_fr kFl w w' ∧ e_Has kCy w' ∧ cmT w w' b p s) := by
      intro nn
      induction nn with
      | zero => intro y4 v1 hj hm; obtain ⟨j4, j5, j6, j7, j8, j9, j10⟩ := hj; exfalso; omega
      | succ nn ih3 =>
        intro y4 v1 hj hm
        obtain ⟨j4, j5, j6, j7, j8, j9, j10⟩ := hj
        refine e_Ok.run (t' := (22, [(0, (1, 19)), (1, (0, b)), (2, (0, p)), (3, (0, s)), (4, (0, y4))], [(0, y4)], v1)) 1 rfl ?_
        refine e_Ok.if1 rfl (fun h11 => ?_) (fun h11 => ?_)
        · replace h11 : (y4 : Int) ≤ 0 := h11
          have e35 : v1 35 b = w 35 b := j6 _ _ (by omega)
          refine e_Ok.ps1 (x := (1, 19)) (q := 72) 1 rfl ?_
          refine e_Ok.getr (z := 30) rfl (el_o rfl) rfl rfl ((j4 19 12 no_d2_0).trans (Eq.trans (e_Has.eq hT (kCy_c rfl)) (by omega))) ⟨by decide, by decide⟩ ?_
          refine e_Ok.ps1 (x := (0, b)) (q := 76) 1 rfl ?_
          refine e_Ok.aald (z := b + 31) rfl (el_o rfl) rfl (by omega) ((j4 30 b no_d2_1).trans (Eq.trans (e_Has.eq hT (kCy_c (k30 (by omega)))) (by omega))) (by omega) ?_
          refine e_Ok.ps2 (x := (0, p)) (y := (0, y4)) (q := 80) 2 rfl ?_
          refine e_Ok.ast rfl (lO (b := b) (by omega) (by omega)) rfl rfl (by omega) ?_
          generalize hw12 : e_up v1 (b + 31) y4 p = w12
          have hT14 : e_Has kCy w12 := e_Has.ups j5 hw12 (kCy_no1 (kO (b := b) _ (by omega) (by omega)))
          refine e_Ok.ps1 (x := (1, 19)) (q := 82) 1 rfl ?_
          refine e_Ok.getr (z := 35) rfl (el_o rfl) rfl rfl (e_uq hw12 (Or.inl (by omega)) ((j4 19 13 no_d2_0).trans (Eq.trans (e_Has.eq hT (kCy_c rfl)) (by omega)))) ⟨by decide, by decide⟩ ?_
          refine e_Ok.ps3 (x := (0, b)) (y := (1, 35)) (z := (0, b)) (q := 87) 2 rfl ?_
          refine e_Ok.ald (z := w 35 b) rfl (el_o rfl) rfl (by omega) (e_uq hw12 (Or.inl (by omega)) e35) (by omega) ?_
          refine e_Ok.ps1 (x := (0, 1)) (q := 89) 1 rfl ?_
          refine e_Ok.add (z := w 35 b + 1) rfl rfl (by omega) ?_
          refine e_Ok.ast rfl (el_o rfl) rfl rfl (by omega) ?_
          generalize hw15 : e_up w12 35 b (w 35 b + 1) = w15
          have hT17 : e_Has kCy w15 := e_Has.ups hT14 hw15 (kCy_no1 rfl)
          refine e_Ok.ps1 (x := (1, 19)) (q := 92) 1 rfl ?_
          refine e_Ok.getr (z := 36) rfl (el_o rfl) rfl rfl (e_uq hw15 (Or.inl (by decide)) (e_uq hw12 (Or.inl (by omega)) ((j4 19 14 no_d2_0).trans (Eq.trans (e_Has.eq hT (kCy_c rfl)) (by omega))))) ⟨by decide, by decide⟩ ?_
          refine e_Ok.ps2 (x := (0, b)) (y := (0, p)) (q := 97) 2 rfl ?_
          refine e_Ok.ast rfl (el_o rfl) rfl rfl (by omega) ?_
          generalize hw18 : e_up w15 36 p b = w18
          have hT20 : e_Has kCy w18 := e_Has.ups hT17 hw18 (kCy_no1 rfl)
          refine e_Ok.ps1 (x := (1, 19)) (q := 99) 1 rfl ?_
          refine e_Ok.getr (z := 37) rfl (el_o rfl) rfl rfl (e_uq hw18 (Or.inl (by decide)) (e_uq hw15 (Or.inl (by decide)) (e_uq hw12 (Or.inl (by omega)) ((j4 19 15 no_d2_0).trans (Eq.trans (e_Has.eq hT (kCy_c rfl)) (by omega)))))) ⟨by decide, by decide⟩ ?_
          refine e_Ok.ps2 (x := (0, s)) (y := (0, p)) (q := 104) 2 rfl ?_
          refine e_Ok.ast rfl (el_o rfl) rfl rfl (by omega) ?_
          generalize hw21 : e_up w18 37 p s = w21
          have hT23 : e_Has kCy w21 := e_Has.ups hT20 hw21 (kCy_no1 rfl)
          refine e_Ok.rets rfl rfl ?_
          exact ⟨rfl, (show e_fr kFl w w21 from e_fr.up (show e_fr kFl w w18 from e_fr.up (show e_fr kFl w w15 from e_fr.up (show e_fr kFl w w12 from e_fr.up j4 hw12 (by first | exact Or.inl ⟨(by omega), (by omega)⟩ | (unfold kFl; omega))) hw15 (by first | exact Or.inl ⟨(by decide), (by decide)⟩ | (unfold kFl; omega))) hw18 (by first | exact Or.inl ⟨(by decide), (by decide)⟩ | (unfold kFl; omega))) hw21 (by first | exact Or.inl ⟨(by decide), (by decide)⟩ | (unfold kFl; omega))), hT23, cmT.mk (by omega) (by omega) (by omega) j6 j7 j8 (by omega) hw12 hw15 hw18 hw21⟩
        · replace h11 : (y4 : Int) > 0 := Int.not_le.mp (show ¬ ((y4 : Int) ≤ 0) from h11)
          have hq := hO.2 (y4 - 1) (by omega) (by omega); unfold kn1 at hq
          have eq5 : v1 (b + 31) (y4 - 1) = w (b + 31) (y4 - 1) := j7 (y4 - 1) (by omega) (by omega)
          have eq6 : v1 37 (w (b + 31) (y4 - 1)) = w 37 (w (b + 31) (y4 - 1)) := j6 _ _ (by omega)
          refine e_Ok.ps1 (x := (1, 19)) (q := 26) 1 rfl ?_
          refine e_Ok.getr (z := 37) rfl (el_o rfl) rfl rfl ((j4 19 15 no_d2_0).trans (Eq.trans (e_Has.eq hT (kCy_c rfl)) (by omega))) ⟨by decide, by decide⟩ ?_
          refine e_Ok.ps1 (x := (1, 19)) (q := 30) 1 rfl ?_
          refine e_Ok.getr (z := 30) rfl (el_o rfl) rfl rfl ((j4 19 12 no_d2_0).trans (Eq.trans (e_Has.eq hT (kCy_c rfl)) (by omega))) ⟨by decide, by decide⟩ ?_
          refine e_Ok.ps1 (x := (0, b)) (q := 34) 1 rfl ?_
          refine e_Ok.aald (z := b + 31) rfl (el_o rfl) rfl (by omega) ((j4 30 b no_d2_1).trans (Eq.trans (e_Has.eq hT (kCy_c (k30 (by omega)))) (by omega))) (by omega) ?_
          refine e_Ok.ps2 (x := (0, 1)) (y := (0, y4)) (q := 38) 2 rfl ?_
          refine e_Ok.sub' (z := y4 - 1) rfl rfl (by omega) ?_
          refine e_Ok.ald (z := w (b + 31) (y4 - 1)) rfl (lO (b := b) (by omega) (by omega)) rfl (by omega) eq5 (by omega) ?_
          refine e_Ok.ald (z := w 37 (w (b + 31) (y4 - 1))) rfl rfl rfl (by omega) eq6 (by omega) ?_
          refine e_Ok.ps1 (x := (0, s)) (q := 42) 1 rfl ?_
          refine e_Ok.if2 rfl (fun h24 => ?_) (fun h24 => ?_)
          · replace h24 : (w 37 (w (b + 31) (y4 - 1)) : Int) ≥ s := h24
            have e35 : v1 35 b = w 35 b := j6 _ _ (by omega)
            refine e_Ok.ps1 (x := (1, 19)) (q := 72) 1 rfl ?_
            refine e_Ok.getr (z := 30) rfl (el_o rfl) rfl rfl ((j4 19 12 no_d2_0).trans (Eq.trans (e_Has.eq hT (kCy_c rfl)) (by omega))) ⟨by decide, by decide⟩ ?_
            refine e_Ok.ps1 (x := (0, b)) (q := 76) 1 rfl ?_
            refine e_Ok.aald (z := b + 31) rfl (el_o rfl) rfl (by omega) ((j4 30 b no_d2_1).trans (Eq.trans (e_Has.eq hT (kCy_c (k30 (by omega)))) (by omega))) (by omega) ?_
            refine e_Ok.ps2 (x := (0, p)) (y := (0, y4)) (q := 80) 2 rfl ?_
            refine e_Ok.ast rfl (lO (b := b) (by omega) (by omega)) rfl rfl (by omega) ?_
            generalize hw25 : e_up v1 (b + 31) y4 p = w25
            have hT27 : e_Has kCy w25 := e_Has.ups j5 hw25 (kCy_no1 (kO (b := b) _ (by omega) (by omega)))
            refine e_Ok.ps1 (x := (1, 19)) (q := 82) 1 rfl ?_
            refine e_Ok.getr (z := 35) rfl (el_o rfl) rfl rfl (e_uq hw25 (Or.inl (by omega)) ((j4 19 13 no_d2_0).trans (Eq.trans (e_Has.eq hT (kCy_c rfl)) (by omega)))) ⟨by decide, by decide⟩ ?_
            refine e_Ok.ps3 (x := (0, b)) (y := (1, 35)) (z := (0, b)) (q := 87) 2 rfl ?_
            refine e_Ok.ald (z := w 35 b) rfl (el_o rfl) rfl (by omega) (e_uq hw25 (Or.inl (by omega)) e35) (by omega) ?_
            refine e_Ok.ps1 (x := (0, 1)) (q := 89) 1 rfl ?_
            refine e_Ok.add (z := w 35 b + 1) rfl rfl (by omega) ?_
            refine e_Ok.ast rfl (el_o rfl) rfl rfl (by omega) ?_
            generalize hw28 : e_up w25 35 b (w 35 b + 1) = w28
            have hT30 : e_Has kCy w28 := e_Has.ups hT27 hw28 (kCy_no1 rfl)
            refine e_Ok.ps1 (x := (1, 19)) (q := 92) 1 rfl ?_
            refine e_Ok.getr (z := 36) rfl (el_o rfl) rfl rfl (e_uq hw28 (Or.inl (by decide)) (e_uq hw25 (Or.inl (by omega)) ((j4 19 14 no_d2_0).trans (Eq.trans (e_Has.eq hT (kCy_c rfl)) (by omega))))) ⟨by decide, by decide⟩ ?_
            refine e_Ok.ps2 (x := (0, b)) (y := (0, p)) (q := 97) 2 rfl ?_
            refine e_Ok.ast rfl (el_o rfl) rfl rfl (by omega) ?_
            generalize hw31 : e_up w28 36 p b = w31
            have hT33 : e_Has kCy w31 := e_Has.ups hT30 hw31 (kCy_no1 rfl)
            refine e_Ok.ps1 (x := (1, 19)) (q := 99) 1 rfl ?_
            refine e_Ok.getr (z := 37) rfl (el_o rfl) rfl rfl (e_uq hw31 (Or.inl (by decide)) (e_uq hw28 (Or.inl (by decide)) (e_uq hw25 (Or.inl (by omega)) ((j4 19 15 no_d2_0).trans (Eq.trans (e_Has.eq hT (kCy_c rfl)) (by omega)))))) ⟨by decide, by decide⟩ ?_
            refine e_Ok.ps2 (x := (0, s)) (y := (0, p)) (q := 104) 2 rfl ?_
            refine e_Ok.ast rfl (el_o rfl) rfl rfl (by omega) ?_
            generalize hw34 : e_up w31 37 p s = w34
            have hT36 : e_Has kCy w34 := e_Has.ups hT33 hw34 (kCy_no1 rfl)
            refine e_Ok.rets rfl rfl ?_
            exact ⟨rfl, (show e_fr kFl w w34 from e_fr.up (show e_fr kFl w w31 from e_fr.up (show e_fr kFl w w28 from e_fr.up (show e_fr kFl w w25 from e_fr.up j4 hw25 (by first | exact Or.inl ⟨(by omega), (by omega)⟩ | (unfold kFl; omega))) hw28 (by first | exact Or.inl ⟨(by decide), (by decide)⟩ | (unfold kFl; omega))) hw31 (by first | exact Or.inl ⟨(by decide), (by decide)⟩ | (unfold kFl; omega))) hw34 (by first | exact Or.inl ⟨(by decide), (by decide)⟩ | (unfold kFl; omega))), hT36, cmT.mk (by omega) (by omega) (by omega) j6 j7 j8 (by omega) hw25 hw28 hw31 hw34⟩
          · replace h24 : (w 37 (w (b + 31) (y4 - 1)) : Int) < s := Int.not_le.mp (show ¬ ((w 37 (w (b + 31) (y4 - 1)) : Int) ≥ s) from h24)
            refine e_Ok.ps1 (x := (1, 19)) (q := 46) 1 rfl ?_
            refine e_Ok.getr (z := 30) rfl (el_o rfl) rfl rfl ((j4 19 12 no_d2_0).trans (Eq.trans (e_Has.eq hT (kCy_c rfl)) (by omega))) ⟨by decide, by decide⟩ ?_
            refine e_Ok.ps1 (x := (0, b)) (q := 50) 1 rfl ?_
            refine e_Ok.aald (z := b + 31) rfl (el_o rfl) rfl (by omega) ((j4 30 b no_d2_1).trans (Eq.trans (e_Has.eq hT (kCy_c (k30 (by omega)))) (by omega))) (by omega) ?_
            refine e_Ok.ps2 (x := (1, 19)) (y := (0, y4)) (q := 54) 2 rfl ?_
            refine e_Ok.getr (z := 30) rfl (el_o rfl) rfl rfl ((j4 19 12 no_d2_0).trans (Eq.trans (e_Has.eq hT (kCy_c rfl)) (by omega))) ⟨by decide, by decide⟩ ?_
            refine e_Ok.ps1 (x := (0, b)) (q := 58) 1 rfl ?_
            refine e_Ok.aald (z := b + 31) rfl (el_o rfl) rfl (by omega) ((j4 30 b no_d2_1).trans (Eq.trans (e_Has.eq hT (kCy_c (k30 (by omega)))) (by omega))) (by omega) ?_
            refine e_Ok.ps2 (x := (0, 1)) (y := (0, y4)) (q := 62) 2 rfl ?_
            refine e_Ok.sub' (z := y4 - 1) rfl rfl (by omega) ?_
            refine e_Ok.ald (z := w (b + 31) (y4 - 1)) rfl (lO (b := b) (by omega) (by omega)) rfl (by omega) eq5 (by omega) ?_
            refine e_Ok.ast rfl (lO (b := b) (by omega) (by omega)) rfl rfl (by omega) ?_
            generalize hw37 : e_up v1 (b + 31) y4 (w (b + 31) (y4 - 1)) = w37
            have hT40 : e_Has kCy w37 := e_Has.ups j5 hw37 (kCy_no1 (kO (b := b) _ (by omega) (by omega)))
            refine e_Ok.inc (z := y4 - 1) rfl rfl (by first | with_reducible rfl | omega) (by omega) ?_
            show e_Ok 20 elay kcode eI d 80 (68, [(4, (0, y4 - 1)), (0, (1, 19)), (1, (0, b)), (2, (0, p)), (3, (0, s))], [], w37) _
            refine e_Ok.ps0 (q := 20) 1 rfl ?_
            refine e_Ok.sub kAlk (e_sub_of rfl ?_) (ih3 (y4 - 1) w37 ⟨(show e_fr kFl w w37 from e_fr.up j4 hw37 (by first | exact Or.inl ⟨(by omega), (by omega)⟩ | (unfold kFl; omega))), hT40, (fun c k g => by rw [← hw37, e_up_ne _ _ (Or.inl g)]; exact j6 c k g), (fun j g1 g2 => by rw [← hw37, e_up_ne _ _ (Or.inr (by omega))]; exact j7 j g1 (by omega)), (fun j g1 g2 => by rw [← hw37]; by_cases e : j = y4; (rw [e, e_up_eq]); (rw [e_up_ne _ _ (Or.inr e)]; exact j8 j (by omega) g2)), by omega, by omega⟩ (by omega))
            exact ⟨rfl, rfl, rfl, rfl, rfl, trivial⟩
    refine e_Ok.sub kAlk (e_sub_of rfl ?_) (hL2 (32 + 1 : Int).toNat (w 35 b) w ⟨(e_fr.refl w), hT, (fun _ _ _ => rfl), (fun _ _ _ => rfl), (fun j g1 g2 => by omega), by omega, by omega⟩ (by omega))
    exact ⟨rfl, rfl, rfl, rfl, rfl, trivial⟩
  · replace h1 : (w 35 b : Int) ≥ 32 := Int.not_lt.mp (show ¬ ((w 35 b : Int) < 32) from h1)
    refine e_Ok.rets rfl rfl ?_
    exact ⟨rfl, (e_fr.refl w), hT, Or.inl ⟨by omega, rfl⟩⟩
theorem c_78_z {d : Nat} (hd : 22 ≤ d) {w : eW} (hT : e_Has kCy w) {p : Int} (gp : 0 ≤ p ∧ p ≤ 31) (hf : fKn w p) (hF : w (p + 42) 0 < 4 → w (p + 42) 0 < w 19 0) : e_Ok 20 elay kcode eI d 78 (0, [(0, (1, 19)), (1, (0, p))], [], w) (fun r w' => r = [] ∧ e_fr kFl w w' ∧ e_Has kCy w' ∧ fKn w' (p + 1)) := by
  obtain ⟨d, rfl⟩ : ∃ e, d = e + 1 := ⟨d - 1, by omega⟩
  have hB := e_Has.get hT (kCy_n (c := 19) (k := 0) (lo := 0) (hi := 4) (by unfold kNh kNw; omega) rfl) (by decide)
  have hG0 := e_Has.get hT (kCy_n (c := p + 42) (k := 0) (by unfold kNh kNw; omega) (kG_0 (p := p) rfl gp)) (by decide)
  have hG1 := e_Has.get hT (kCy_n (c := p + 42) (k := 1) (by unfold kNh kNw; omega) (kG_1 (p := p) rfl gp)) (by decide)
  have hG2 := e_Has.get hT (kCy_n (c := p + 42) (k := 2) (by unfold kNh kNw; omega) (kG_2 (p := p) rfl gp)) (by decide)
  have hG3 := e_Has.get hT (kCy_n (c := p + 42) (k := 3) (by unfold kNh kNw; omega) (kG_3 (p := p) rfl gp)) (by decide)
  refine e_Ok.ps1 (x := (1, 19)) (q := 1) 1 rfl ?_
  refine e_Ok.getr (z := 41) rfl (el_o rfl) rfl rfl (Eq.trans (e_Has.eq hT (kCy_c rfl)) (by omega)) ⟨by decide, by decide⟩ ?_
  refine e_Ok.ps1 (x := (0, p)) (q := 5) 1 rfl ?_
  refine e_Ok.aald (z := p + 42) rfl (el_o rfl) rfl (by omega) (Eq.trans (e_Has.eq hT (kCy_c (k41 (by omega)))) (by omega)) (by omega) ?_
  refine e_Ok.ps1 (x := (0, 0)) (q := 7) 1 rfl ?_
  have h1 := (e_Has.get hT (c := p + 42) (k := 0) (lo := 0) (hi := 8) (kCy_n (nh_G (p := p) (by omega) (by omega)) (kG_0 (p := p) (by omega) (by omega))) (by decide))
  refine e_Ok.ald (z := w (p + 42) 0) rfl (lG (p := p) (by omega) (by omega)) rfl (by omega) rfl (e_bq h1 (by decide) (by decide)) ?_
  refine e_Ok.ps1 (x := (0, 4)) (q := 9) 1 rfl ?_
  refine e_Ok.if2 rfl (fun h2 => ?_) (fun h2 => ?_)
  · replace h2 : (w (p + 42) 0 : Int) ≥ 4 := h2
    refine e_Ok.ps3 (x := (1, 19)) (y := (0, p)) (z := (1, 19)) (q := 39) 3 rfl ?_
    refine e_Ok.getr (z := 41) rfl (el_o rfl) rfl rfl (Eq.trans (e_Has.eq hT (kCy_c rfl)) (by omega)) ⟨by decide, by decide⟩ ?_
    refine e_Ok.ps1 (x := (0, p)) (q := 43) 1 rfl ?_
    refine e_Ok.aald (z := p + 42) rfl (el_o rfl) rfl (by omega) (Eq.trans (e_Has.eq hT (kCy_c (k41 (by omega)))) (by omega)) (by omega) ?_
    refine e_Ok.ps1 (x := (0, 2)) (q := 45) 1 rfl ?_
    have h3 := (e_Has.get hT (c := p + 42) (k := 2) (lo := (-2147483648)) (hi := 2147483647) (kCy_n (nh_G (p := p) (by omega) (by omega)) (kG_2 (p := p) (by omega) (by omega))) (by decide))
    refine e_Ok.ald (z := w (p + 42) 2) rfl (lG (p := p) (by omega) (by omega)) rfl (by omega) rfl (e_bq h3 (by decide) (by decide)) ?_
    refine e_Ok.ps1 (x := (1, 19)) (q := 47) 1 rfl ?_
    refine e_Ok.getr (z := 41) rfl (el_o rfl) rfl rfl (Eq.trans (e_Has.eq hT (kCy_c rfl)) (by omega)) ⟨by decide, by decide⟩ ?_
    refine e_Ok.ps1 (x := (0, p)) (q := 51) 1 rfl ?_
    refine e_Ok.aald (z := p + 42) rfl (el_o rfl) rfl (by omega) (Eq.trans (e_Has.eq hT (kCy_c (k41 (by omega)))) (by omega)) (by omega) ?_
    refine e_Ok.ps1 (x := (0, 3)) (q := 53) 1 rfl ?_
    have h4 := (e_Has.get hT (c := p + 42) (k := 3) (lo := (-2147483648)) (hi := 2147483647) (kCy_n (nh_G (p := p) (by omega) (by omega)) (kG_3 (p := p) (by omega) (by omega))) (by decide))
    refine e_Ok.ald (z := w (p + 42) 3) rfl (lG (p := p) (by omega) (by omega)) rfl (by omega) rfl (e_bq h4 (by decide) (by decide)) ?_
    refine e_Ok.callV rfl (e_dq hd rfl) rfl rfl rfl rfl (c_79_z hT (by omega) (by omega) (by omega)) (fun r5 w6 h7 => ?_)
    obtain ⟨rfl, q8f, q8T, q8x⟩ := h7
    refine e_Ok.nrm (q := 57) (st' := []) rfl rfl ?_
    refine e_Ok.rets rfl rfl ?_
    obtain ⟨z8, x1, x2, rfl, k1, k2, k3⟩ := q8x
    exact ⟨rfl, (show e_fr kFl w w6 from e_fr.trans (e_fr.refl w) (e_fr.mono q8f (fun c k q => by exact q))), q8T, hf.lie (by omega) (by omega) (show kn1 (w (p + 42) 2) from by unfold kn1; omega) (show kn1 (w (p + 42) 3) from by unfold kn1; omega) k1 k2 k3⟩
  · replace h2 : (w (p + 42) 0 : Int) < 4 := Int.not_le.mp (show ¬ ((w (p + 42) 0 : Int) ≥ 4) from h2)
    refine e_Ok.ps2 (x := (1, 19)) (y := (1, 19)) (q := 14) 2 rfl ?_
    refine e_Ok.getr (z := 41) rfl (el_o rfl) rfl rfl (Eq.trans (e_Has.eq hT (kCy_c rfl)) (by omega)) ⟨by decide, by decide⟩ ?_
    refine e_Ok.ps1 (x := (0, p)) (q := 18) 1 rfl ?_
    refine e_Ok.aald (z := p + 42) rfl (el_o rfl) rfl (by omega) (Eq.trans (e_Has.eq hT (kCy_c (k41 (by omega)))) (by omega)) (by omega) ?_
    refine e_Ok.ps1 (x := (0, 0)) (q := 20) 1 rfl ?_
    refine e_Ok.ald (z := w (p + 42) 0) rfl (lG (p := p) (by omega) (by omega)) rfl (by omega) rfl (by omega) ?_
    refine e_Ok.ps2 (x := (1, 19)) (y := (0, p)) (q := 23) 2 rfl ?_
    refine e_Ok.getr (z := 41) rfl (el_o rfl) rfl rfl (Eq.trans (e_Has.eq hT (kCy_c rfl)) (by omega)) ⟨by decide, by decide⟩ ?_
    refine e_Ok.ps1 (x := (0, p)) (q := 27) 1 rfl ?_
    refine e_Ok.aald (z := p + 42) rfl (el_o rfl) rfl (by omega) (Eq.trans (e_Has.eq hT (kCy_c (k41 (by omega)))) (by omega)) (by omega) ?_
    refine e_Ok.ps1 (x := (0, 1)) (q := 29) 1 rfl ?_
    have h10 := (e_Has.get hT (c := p + 42) (k := 1) (lo := (-2147483648)) (hi := 2147483647) (kCy_n (nh_G (p := p) (by omega) (by omega)) (kG_1 (p := p) (by omega) (by omega))) (by decide))
    refine e_Ok.ald (z := w (p + 42) 1) rfl (lG (p := p) (by omega) (by omega)) rfl (by omega) rfl (e_bq h10 (by decide) (by decide)) ?_
    have hb := hF (by omega)
    refine e_Ok.callV rfl (e_dq hd rfl) rfl rfl rfl rfl (c_80_z hT (by omega) (by omega) (by omega) (hf.ord (by omega) (by omega) (by omega))) (fun r11 w12 h13 => ?_)
    obtain ⟨rfl, q14f, q14T, q14x⟩ := h13
    refine e_Ok.nrm (q := 33) (st' := []) rfl rfl ?_
    refine e_Ok.ps0 (q := 57) 1 rfl ?_
    refine e_Ok.rets rfl rfl ?_
    exact ⟨rfl, (show e_fr kFl w w12 from e_fr.trans (e_fr.refl w) (e_fr.mono q14f (fun c k q => by exact q))), q14T, hf.come (by omega) (by omega) (by omega) (show kn1 (w (p + 42) 1) from by unfold kn1; omega) q14x⟩
theorem c_77_z {d : Nat} (hd : 23 ≤ d) {w : eW} (hT : e_Has kCy w) (hF : ∀ p, 0 ≤ p → p < w 19 1 → w (p + 42) 0 < 4 → w (p + 42) 0 < w 19 0) : e_Ok 20 elay kcode eI d 77 (0, [(0, (1, 19))], [], w) (fun r w' => r = [] ∧ e_fr kFl w w' ∧ e_Has kCy w' ∧ fK w') := by
  obtain ⟨d, rfl⟩ : ∃ e, d = e + 1 := ⟨d - 1, by omega⟩
  have hB := e_Has.get hT (kCy_n (c := 19) (k := 0) (lo := 0) (hi := 4) (by unfold kNh kNw; omega) rfl) (by decide)
  have hP := e_Has.get hT (kCy_n (c := 19) (k := 1) (lo := 0) (hi := 32) (by unfold kNh kNw; omega) rfl) (by decide)
  refine e_Ok.run (t' := (2, [(1, (0, 0)), (0, (1, 19))], [], w)) 2 rfl ?_
  have hL1 : ∀ (nn : Nat) (y1 : Int) (v1 : eW), e_fr kFl w v1 ∧ e_Has kCy v1 ∧ (∀ i, 0 ≤ i → i < y1 → v1 35 i = 0) ∧ (0 ≤ y1 ∧ y1 ≤ 4) → 4 - y1 < nn → e_Ok 20 elay kcode eI (d + 1) 77 (2, [(0, (1, 19)), (1, (0, y1))], [], v1) (fun r w' => r = [] ∧ e_fr kFl w w' ∧ e_Has kCy w' ∧ fK w') := by
    intro nn
    induction nn with
    | zero => intro y1 v1 hj hm; obtain ⟨j3, j4, j5, j6⟩ := hj; exfalso; omega
    | succ nn ih2 =>
      intro y1 v1 hj hm
      obtain ⟨j3, j4, j5, j6⟩ := hj
      refine e_Ok.run (t' := (4, [(0, (1, 19)), (1, (0, y1))], [(1, 19), (0, y1)], v1)) 2 rfl ?_
      have h7 := (e_Has.get hT (c := 19) (k := 0) (lo := 0) (hi := 4) (kCy_n (by unfold kNh kNw; omega) rfl) (by decide))
      refine e_Ok.getf (z := w 19 0) rfl (el_o rfl) rfl rfl ((j3 19 0 no_d2_0).trans rfl) (e_bq h7 (by decide) (by decide)) ?_
      refine e_Ok.if2 rfl (fun h8 => ?_) (fun h8 => ?_)
      · replace h8 : (y1 : Int) ≥ w 19 0 := h8
        refine e_Ok.run (t' := (25, [(1, (0, 0)), (0, (1, 19))], [], v1)) 2 rfl ?_
        have hL9 : ∀ (nn : Nat) (y1b : Int) (v2 : eW), e_fr kFl w v2 ∧ e_Has kCy v2 ∧ fKn v2 y1b ∧ y1b ≤ w 19 1 ∧ (0 ≤ y1b ∧ y1b ≤ 32) → 32 - y1b < nn → e_Ok 20 elay kcode eI (d + 1) 77 (25, [(0, (1, 19)), (1, (0, y1b))], [], v2) (fun r w' => r = [] ∧ e_fr kFl w w' ∧ e_Has kCy w' ∧ fK w') := by
          intro nn
          induction nn with
          | zero => intro y1b v2 hj hm; obtain ⟨j11, j12, j13, j14, j15⟩ := hj; exfalso; omega
          | succ nn ih10 =>
            intro y1b v2 hj hm
            obtain ⟨j11, j12, j13, j14, j15⟩ := hj
            refine e_Ok.run (t' := (27, [(0, (1, 19)), (1, (0, y1b))], [(1, 19), (0, y1b)], v2)) 2 rfl ?_
            have h16 := (e_Has.get hT (c := 19) (k := 1) (lo := 0) (hi := 32) (kCy_n (by unfold kNh kNw; omega) rfl) (by decide))
            refine e_Ok.getf (z := w 19 1) rfl (el_o rfl) rfl rfl ((j11 19 1 no_d2_0).trans rfl) (e_bq h16 (by decide) (by decide)) ?_
            refine e_Ok.if2 rfl (fun h17 => ?_) (fun h17 => ?_)
            · replace h17 : (y1b : Int) ≥ w 19 1 := h17
              refine e_Ok.rets rfl rfl ?_
              exact ⟨rfl, j11, j12, (show fKn v2 (w 19 1) from by have g := j13; rw [show y1b = w 19 1 by omega] at g; exact g).fK (j11 19 1 no_d2_0) (by omega)⟩
            · replace h17 : (y1b : Int) < w 19 1 := Int.not_le.mp (show ¬ ((y1b : Int) ≥ w 19 1) from h17)
              refine e_Ok.ps2 (x := (0, y1b)) (y := (1, 19)) (q := 35) 2 rfl ?_
              refine e_Ok.callV rfl (e_dq hd rfl) rfl rfl rfl rfl (c_78_z (e_dq hd rfl) j12 (by omega) j13 (by rw [j11 _ 0 (by unfold kFl; omega), j11 19 0 no_d2_0]; exact hF y1b (by omega) (by omega))) (fun r18 w19 h20 => ?_)
              obtain ⟨rfl, q21f, q21T, q21x⟩ := h20
              refine e_Ok.nrm (q := 38) (st' := []) rfl rfl ?_
              refine e_Ok.inc (z := y1b + 1) rfl rfl (by first | with_reducible rfl | omega) (by omega) ?_
              show e_Ok 20 elay kcode eI (d + 1) 77 (41, [(1, (0, y1b + 1)), (0, (1, 19))], [], w19) _
              refine e_Ok.ps0 (q := 25) 1 rfl ?_
              refine e_Ok.sub kAlk (e_sub_of rfl ?_) (ih10 (y1b + 1) w19 ⟨(show e_fr kFl w w19 from e_fr.trans j11 (e_fr.mono q21f (fun c k q => by exact q))), q21T, q21x, by omega, by omega⟩ (by omega))
              exact ⟨rfl, rfl, trivial⟩
        refine e_Ok.sub kAlk (e_sub_of rfl ?_) (hL9 (32 + 1 : Int).toNat 0 v1 ⟨j3, j4, ⟨fun b g1 g2 => by rw [j3 19 0 no_d2_0] at g2; have z := j5 b g1 (by omega); exact ⟨by omega, fun i g3 g4 => by omega⟩, fun p g1 g2 => by omega⟩, by omega, by omega⟩ (by omega))
        exact ⟨rfl, rfl, trivial⟩
      · replace h8 : (y1 : Int) < w 19 0 := Int.not_le.mp (show ¬ ((y1 : Int) ≥ w 19 0) from h8)
        refine e_Ok.ps1 (x := (1, 19)) (q := 11) 1 rfl ?_
        refine e_Ok.getr (z := 35) rfl (el_o rfl) rfl rfl ((j3 19 13 no_d2_0).trans (Eq.trans (e_Has.eq hT (kCy_c rfl)) (by omega))) ⟨by decide, by decide⟩ ?_
        refine e_Ok.ps2 (x := (0, 0)) (y := (0, y1)) (q := 16) 2 rfl ?_
        refine e_Ok.ast rfl (el_o rfl) rfl rfl (by omega) ?_
        generalize hw23 : e_up v1 35 y1 0 = w23
        have hT25 : e_Has kCy w23 := e_Has.ups j4 hw23 (kCy_no1 rfl)
        refine e_Ok.inc (z := y1 + 1) rfl rfl (by first | with_reducible rfl | omega) (by omega) ?_
        show e_Ok 20 elay kcode eI (d + 1) 77 (20, [(1, (0, y1 + 1)), (0, (1, 19))], [], w23) _
        refine e_Ok.ps0 (q := 2) 1 rfl ?_
        refine e_Ok.sub kAlk (e_sub_of rfl ?_) (ih2 (y1 + 1) w23 ⟨(show e_fr kFl w w23 from e_fr.up j3 hw23 (by first | exact Or.inl ⟨(by decide), (by decide)⟩ | (unfold kFl; omega))), hT25, (fun i g1 g2 => by rw [← hw23]; by_cases e : i = y1; (rw [e, e_up_eq]); (rw [e_up_ne _ _ (Or.inr e)]; exact j5 i g1 (by omega))), by omega⟩ (by omega))
        exact ⟨rfl, rfl, trivial⟩
  refine e_Ok.sub kAlk (e_sub_of rfl ?_) (hL1 (4 + 1 : Int).toNat 0 w ⟨(e_fr.refl w), hT, (fun i g1 g2 => by omega), by omega⟩ (by omega))
  exact ⟨rfl, rfl, trivial⟩
theorem c_79_k {d : Nat} {w : eW} (hT : e_Has kTy w) {p x y : Int} (gp : 0 ≤ p ∧ p ≤ 31) (gx : -2147483648 ≤ x ∧ x ≤ 2147483647) (gy : -2147483648 ≤ y ∧ y ≤ 2147483647) : e_Ok 20 elay kcode eI d 79 (0, [(0, (1, 19)), (1, (0, p)), (2, (0, x)), (3, (0, y))], [], w) (fun r w' => r = [] ∧ e_fr kFl w w' ∧ e_Has kTy w' ∧ ∃ z8 w1 w2, z8 = 8 ∧ e_up w 36 p z8 = w1 ∧ e_up w1 39 p x = w2 ∧ e_up w2 40 p y = w') := by
  refine e_Ok.ps1 (x := (1, 19)) (q := 1) 1 rfl ?_
  refine e_Ok.getr (z := 36) rfl (el_o rfl) rfl rfl (e_Has.eq hT (kt_o rfl)) ⟨by decide, by decide⟩ ?_
  refine e_Ok.ps2 (x := (0, 8)) (y := (0, p)) (q := 7) 2 rfl ?_
  refine e_Ok.ast rfl (el_o rfl) rfl rfl (by omega) ?_
  generalize hw1 : e_up w 36 p 8 = w1
  have hT3 : e_Has kTy w1 := e_Has.ups hT hw1 (kt_o rfl)
  refine e_Ok.ps1 (x := (1, 19)) (q := 9) 1 rfl ?_
  refine e_Ok.getr (z := 39) rfl (el_o rfl) rfl rfl (e_uq hw1 (Or.inl (by decide)) (e_Has.eq hT (kt_o rfl))) ⟨by decide, by decide⟩ ?_
  refine e_Ok.ps2 (x := (0, x)) (y := (0, p)) (q := 14) 2 rfl ?_
  refine e_Ok.ast rfl (el_o rfl) rfl rfl (by omega) ?_
  generalize hw4 : e_up w1 39 p x = w4
  have hT6 : e_Has kTy w4 := e_Has.ups hT3 hw4 (kt_o rfl)
  refine e_Ok.ps1 (x := (1, 19)) (q := 16) 1 rfl ?_
  refine e_Ok.getr (z := 40) rfl (el_o rfl) rfl rfl (e_uq hw4 (Or.inl (by decide)) (e_uq hw1 (Or.inl (by decide)) (e_Has.eq hT (kt_o rfl)))) ⟨by decide, by decide⟩ ?_
  refine e_Ok.ps2 (x := (0, y)) (y := (0, p)) (q := 21) 2 rfl ?_
  refine e_Ok.ast rfl (el_o rfl) rfl rfl (by omega) ?_
  generalize hw7 : e_up w4 40 p y = w7
  have hT9 : e_Has kTy w7 := e_Has.ups hT6 hw7 (kt_o rfl)
  refine e_Ok.rets rfl rfl ?_
  exact ⟨rfl, (show e_fr kFl w w7 from e_fr.up (show e_fr kFl w w4 from e_fr.up (show e_fr kFl w w1 from e_fr.up (e_fr.refl w) hw1 (by first | exact Or.inl ⟨(by decide), (by decide)⟩ | (unfold kFl; omega))) hw4 (by first | exact Or.inr (Or.inl rfl) | (unfold kFl; omega))) hw7 (by first | exact Or.inr (Or.inr rfl) | (unfold kFl; omega))), hT9, 8, _, _, rfl, hw1, hw4, hw7⟩
theorem c_80_k {d : Nat} {w : eW} (hT : e_Has kTy w) {b p s : Int} (g_b : 0 ≤ b ∧ b ≤ 3) (g_p : 0 ≤ p ∧ p ≤ 31) (g_s : (-2147483648) ≤ s ∧ s ≤ 2147483647) (hO : (0 ≤ w 35 b ∧ w 35 b ≤ 32) ∧ ∀ i, 0 ≤ i → i < w 35 b → (0 ≤ w (b + 31) i ∧ w (b + 31) i ≤ 31) ∧ kn1 (w 37 (w (b + 31) i))) : e_Ok 20 elay kcode eI d 80 (0, [(0, (1, 19)), (1, (0, b)), (2, (0, p)), (3, (0, s))], [], w) (fun r w' => r = [] ∧ e_fr kFl w w' ∧ e_Has kTy w' ∧ cmT w w' b p s) := by
  refine e_Ok.ps1 (x := (1, 19)) (q := 1) 1 rfl ?_
  refine e_Ok.getr (z := 35) rfl (el_o rfl) rfl rfl (e_Has.eq hT (kt_o rfl)) ⟨by decide, by decide⟩ ?_
  refine e_Ok.ps1 (x := (0, b)) (q := 5) 1 rfl ?_
  refine e_Ok.ald (z := w 35 b) rfl (el_o rfl) rfl (by omega) rfl (by omega) ?_
  refine e_Ok.ps1 (x := (0, 32)) (q := 8) 1 rfl ?_
  refine e_Ok.if2 rfl (fun h1 => ?_) (fun h1 => ?_)
  · replace h1 : (w 35 b : Int) < 32 := h1
    refine e_Ok.ps1 (x := (1, 19)) (q := 13) 1 rfl ?_
    refine e_Ok.getr (z := 35) rfl (el_o rfl) rfl rfl (e_Has.eq hT (kt_o rfl)) ⟨by decide, by decide⟩ ?_
    refine e_Ok.ps1 (x := (0, b)) (q := 17) 1 rfl ?_
    refine e_Ok.ald (z := w 35 b) rfl (el_o rfl) rfl (by omega) rfl (by omega) ?_
    refine e_Ok.run (t' := (20, [(4, (0, w 35 b)), (0, (1, 19)), (1, (0, b)), (2, (0, p)), (3, (0, s))], [], w)) 1 rfl ?_
    have hL2 : ∀ (nn : Nat) (y4 : Int) (v1 : eW), e_fr kFl w v1 ∧ e_Has kTy v1 ∧ (∀ c k, c ≠ b + 31 → v1 c k = w c k) ∧ (∀ j, 0 ≤ j → j < y4 → v1 (b + 31) j = w (b + 31) j) ∧ (∀ j, y4 < j → j ≤ w 35 b → v1 (b + 31) j = w (b + 31) (j - 1)) ∧ y4 ≤ w 35 b ∧ (0 ≤ y4 ∧ y4 ≤ 32) → y4 < nn → e_Ok 20 elay kcode eI d 80 (20, [(0, (1, 19)), (1, (0, b)), (2, (0, p)), (3, (0, s)), (4, (0, y4))], [], v1) (fun r w' => r = [] ∧ e_fr kFl w w' ∧ e_Has kTy w' ∧ cmT w w' b p s) := by
      intro nn
      induction nn with
      | zero => intro y4 v1 hj hm; obtain ⟨j4, j5, j6, j7, j8, j9, j10⟩ := hj; exfalso; omega
      | succ nn ih3 =>
        intro y4 v1 hj hm
        obtain ⟨j4, j5, j6, j7, j8, j9, j10⟩ := hj
        refine e_Ok.run (t' := (22, [(0, (1, 19)), (1, (0, b)), (2, (0, p)), (3, (0, s)), (4, (0, y4))], [(0, y4)], v1)) 1 rfl ?_
        refine e_Ok.if1 rfl (fun h11 => ?_) (fun h11 => ?_)
        · replace h11 : (y4 : Int) ≤ 0 := h11
          have e35 : v1 35 b = w 35 b := j6 _ _ (by omega)
          refine e_Ok.ps1 (x := (1, 19)) (q := 72) 1 rfl ?_
          refine e_Ok.getr (z := 30) rfl (el_o rfl) rfl rfl ((j4 19 12 no_d2_0).trans (e_Has.eq hT (kt_o rfl))) ⟨by decide, by decide⟩ ?_
          refine e_Ok.ps1 (x := (0, b)) (q := 76) 1 rfl ?_
          refine e_Ok.aald (z := b + 31) rfl (el_o rfl) rfl (by omega) ((j4 30 b no_d2_1).trans (Eq.trans (e_Has.eq hT (k30 (by omega))) (by omega))) (by omega) ?_
          refine e_Ok.ps2 (x := (0, p)) (y := (0, y4)) (q := 80) 2 rfl ?_
          refine e_Ok.ast rfl (lO (b := b) (by omega) (by omega)) rfl rfl (by omega) ?_
          generalize hw12 : e_up v1 (b + 31) y4 p = w12
          have hT14 : e_Has kTy w12 := e_Has.ups j5 hw12 (kO (b := b) _ (by omega) (by omega))
          refine e_Ok.ps1 (x := (1, 19)) (q := 82) 1 rfl ?_
          refine e_Ok.getr (z := 35) rfl (el_o rfl) rfl rfl (e_uq hw12 (Or.inl (by omega)) ((j4 19 13 no_d2_0).trans (e_Has.eq hT (kt_o rfl)))) ⟨by decide, by decide⟩ ?_
          refine e_Ok.ps3 (x := (0, b)) (y := (1, 35)) (z := (0, b)) (q := 87) 2 rfl ?_
          refine e_Ok.ald (z := w 35 b) rfl (el_o rfl) rfl (by omega) (e_uq hw12 (Or.inl (by omega)) e35) (by omega) ?_
          refine e_Ok.ps1 (x := (0, 1)) (q := 89) 1 rfl ?_
          refine e_Ok.add (z := w 35 b + 1) rfl rfl (by omega) ?_
          refine e_Ok.ast rfl (el_o rfl) rfl rfl (by omega) ?_
          generalize hw15 : e_up w12 35 b (w 35 b + 1) = w15
          have hT17 : e_Has kTy w15 := e_Has.ups hT14 hw15 (kt_o rfl)
          refine e_Ok.ps1 (x := (1, 19)) (q := 92) 1 rfl ?_
          refine e_Ok.getr (z := 36) rfl (el_o rfl) rfl rfl (e_uq hw15 (Or.inl (by decide)) (e_uq hw12 (Or.inl (by omega)) ((j4 19 14 no_d2_0).trans (e_Has.eq hT (kt_o rfl))))) ⟨by decide, by decide⟩ ?_
          refine e_Ok.ps2 (x := (0, b)) (y := (0, p)) (q := 97) 2 rfl ?_
          refine e_Ok.ast rfl (el_o rfl) rfl rfl (by omega) ?_
          generalize hw18 : e_up w15 36 p b = w18
          have hT20 : e_Has kTy w18 := e_Has.ups hT17 hw18 (kt_o rfl)
          refine e_Ok.ps1 (x := (1, 19)) (q := 99) 1 rfl ?_
          refine e_Ok.getr (z := 37) rfl (el_o rfl) rfl rfl (e_uq hw18 (Or.inl (by decide)) (e_uq hw15 (Or.inl (by decide)) (e_uq hw12 (Or.inl (by omega)) ((j4 19 15 no_d2_0).trans (e_Has.eq hT (kt_o rfl)))))) ⟨by decide, by decide⟩ ?_
          refine e_Ok.ps2 (x := (0, s)) (y := (0, p)) (q := 104) 2 rfl ?_
          refine e_Ok.ast rfl (el_o rfl) rfl rfl (by omega) ?_
          generalize hw21 : e_up w18 37 p s = w21
          have hT23 : e_Has kTy w21 := e_Has.ups hT20 hw21 (kt_o rfl)
          refine e_Ok.rets rfl rfl ?_
          exact ⟨rfl, (show e_fr kFl w w21 from e_fr.up (show e_fr kFl w w18 from e_fr.up (show e_fr kFl w w15 from e_fr.up (show e_fr kFl w w12 from e_fr.up j4 hw12 (by first | exact Or.inl ⟨(by omega), (by omega)⟩ | (unfold kFl; omega))) hw15 (by first | exact Or.inl ⟨(by decide), (by decide)⟩ | (unfold kFl; omega))) hw18 (by first | exact Or.inl ⟨(by decide), (by decide)⟩ | (unfold kFl; omega))) hw21 (by first | exact Or.inl ⟨(by decide), (by decide)⟩ | (unfold kFl; omega))), hT23, cmT.mk (by omega) (by omega) (by omega) j6 j7 j8 (by omega) hw12 hw15 hw18 hw21⟩
        · replace h11 : (y4 : Int) > 0 := Int.not_le.mp (show ¬ ((y4 : Int) ≤ 0) from h11)
          have hq := hO.2 (y4 - 1) (by omega) (by omega); unfold kn1 at hq
          have eq5 : v1 (b + 31) (y4 - 1) = w (b + 31) (y4 - 1) := j7 (y4 - 1) (by omega) (by omega)
          have eq6 : v1 37 (w (b + 31) (y4 - 1)) = w 37 (w (b + 31) (y4 - 1)) := j6 _ _ (by omega)
          refine e_Ok.ps1 (x := (1, 19)) (q := 26) 1 rfl ?_
          refine e_Ok.getr (z := 37) rfl (el_o rfl) rfl rfl ((j4 19 15 no_d2_0).trans (e_Has.eq hT (kt_o rfl))) ⟨by decide, by decide⟩ ?_
          refine e_Ok.ps1 (x := (1, 19)) (q := 30) 1 rfl ?_
          refine e_Ok.getr (z := 30) rfl (el_o rfl) rfl rfl ((j4 19 12 no_d2_0).trans (e_Has.eq hT (kt_o rfl))) ⟨by decide, by decide⟩ ?_
          refine e_Ok.ps1 (x := (0, b)) (q := 34) 1 rfl ?_
          refine e_Ok.aald (z := b + 31) rfl (el_o rfl) rfl (by omega) ((j4 30 b no_d2_1).trans (Eq.trans (e_Has.eq hT (k30 (by omega))) (by omega))) (by omega) ?_
          refine e_Ok.ps2 (x := (0, 1)) (y := (0, y4)) (q := 38) 2 rfl ?_
          refine e_Ok.sub' (z := y4 - 1) rfl rfl (by omega) ?_
          refine e_Ok.ald (z := w (b + 31) (y4 - 1)) rfl (lO (b := b) (by omega) (by omega)) rfl (by omega) eq5 (by omega) ?_
          refine e_Ok.ald (z := w 37 (w (b + 31) (y4 - 1))) rfl rfl rfl (by omega) eq6 (by omega) ?_
          refine e_Ok.ps1 (x := (0, s)) (q := 42) 1 rfl ?_
          refine e_Ok.if2 rfl (fun h24 => ?_) (fun h24 => ?_)
          · replace h24 : (w 37 (w (b + 31) (y4 - 1)) : Int) ≥ s := h24
            have e35 : v1 35 b = w 35 b := j6 _ _ (by omega)
            refine e_Ok.ps1 (x := (1, 19)) (q := 72) 1 rfl ?_
            refine e_Ok.getr (z := 30) rfl (el_o rfl) rfl rfl ((j4 19 12 no_d2_0).trans (e_Has.eq hT (kt_o rfl))) ⟨by decide, by decide⟩ ?_
            refine e_Ok.ps1 (x := (0, b)) (q := 76) 1 rfl ?_
            refine e_Ok.aald (z := b + 31) rfl (el_o rfl) rfl (by omega) ((j4 30 b no_d2_1).trans (Eq.trans (e_Has.eq hT (k30 (by omega))) (by omega))) (by omega) ?_
            refine e_Ok.ps2 (x := (0, p)) (y := (0, y4)) (q := 80) 2 rfl ?_
            refine e_Ok.ast rfl (lO (b := b) (by omega) (by omega)) rfl rfl (by omega) ?_
            generalize hw25 : e_up v1 (b + 31) y4 p = w25
            have hT27 : e_Has kTy w25 := e_Has.ups j5 hw25 (kO (b := b) _ (by omega) (by omega))
            refine e_Ok.ps1 (x := (1, 19)) (q := 82) 1 rfl ?_
            refine e_Ok.getr (z := 35) rfl (el_o rfl) rfl rfl (e_uq hw25 (Or.inl (by omega)) ((j4 19 13 no_d2_0).trans (e_Has.eq hT (kt_o rfl)))) ⟨by decide, by decide⟩ ?_
            refine e_Ok.ps3 (x := (0, b)) (y := (1, 35)) (z := (0, b)) (q := 87) 2 rfl ?_
            refine e_Ok.ald (z := w 35 b) rfl (el_o rfl) rfl (by omega) (e_uq hw25 (Or.inl (by omega)) e35) (by omega) ?_
            refine e_Ok.ps1 (x := (0, 1)) (q := 89) 1 rfl ?_
            refine e_Ok.add (z := w 35 b + 1) rfl rfl (by omega) ?_
            refine e_Ok.ast rfl (el_o rfl) rfl rfl (by omega) ?_
            generalize hw28 : e_up w25 35 b (w 35 b + 1) = w28
            have hT30 : e_Has kTy w28 := e_Has.ups hT27 hw28 (kt_o rfl)
            refine e_Ok.ps1 (x := (1, 19)) (q := 92) 1 rfl ?_
            refine e_Ok.getr (z := 36) rfl (el_o rfl) rfl rfl (e_uq hw28 (Or.inl (by decide)) (e_uq hw25 (Or.inl (by omega)) ((j4 19 14 no_d2_0).trans (e_Has.eq hT (kt_o rfl))))) ⟨by decide, by decide⟩ ?_
            refine e_Ok.ps2 (x := (0, b)) (y := (0, p)) (q := 97) 2 rfl ?_
            refine e_Ok.ast rfl (el_o rfl) rfl rfl (by omega) ?_
            generalize hw31 : e_up w28 36 p b = w31
            have hT33 : e_Has kTy w31 := e_Has.ups hT30 hw31 (kt_o rfl)
            refine e_Ok.ps1 (x := (1, 19)) (q := 99) 1 rfl ?_
            refine e_Ok.getr (z := 37) rfl (el_o rfl) rfl rfl (e_uq hw31 (Or.inl (by decide)) (e_uq hw28 (Or.inl (by decide)) (e_uq hw25 (Or.inl (by omega)) ((j4 19 15 no_d2_0).trans (e_Has.eq hT (kt_o rfl)))))) ⟨by decide, by decide⟩ ?_
            refine e_Ok.ps2 (x := (0, s)) (y := (0, p)) (q := 104) 2 rfl ?_
            refine e_Ok.ast rfl (el_o rfl) rfl rfl (by omega) ?_
            generalize hw34 : e_up w31 37 p s = w34
            have hT36 : e_Has kTy w34 := e_Has.ups hT33 hw34 (kt_o rfl)
            refine e_Ok.rets rfl rfl ?_
            exact ⟨rfl, (show e_fr kFl w w34 from e_fr.up (show e_fr kFl w w31 from e_fr.up (show e_fr kFl w w28 from e_fr.up (show e_fr kFl w w25 from e_fr.up j4 hw25 (by first | exact Or.inl ⟨(by omega), (by omega)⟩ | (unfold kFl; omega))) hw28 (by first | exact Or.inl ⟨(by decide), (by decide)⟩ | (unfold kFl; omega))) hw31 (by first | exact Or.inl ⟨(by decide), (by decide)⟩ | (unfold kFl; omega))) hw34 (by first | exact Or.inl ⟨(by decide), (by decide)⟩ | (unfold kFl; omega))), hT36, cmT.mk (by omega) (by omega) (by omega) j6 j7 j8 (by omega) hw25 hw28 hw31 hw34⟩
          · replace h24 : (w 37 (w (b + 31) (y4 - 1)) : Int) < s := Int.not_le.mp (show ¬ ((w 37 (w (b + 31) (y4 - 1)) : Int) ≥ s) from h24)
            refine e_Ok.ps1 (x := (1, 19)) (q := 46) 1 rfl ?_
            refine e_Ok.getr (z := 30) rfl (el_o rfl) rfl rfl ((j4 19 12 no_d2_0).trans (e_Has.eq hT (kt_o rfl))) ⟨by decide, by decide⟩ ?_
            refine e_Ok.ps1 (x := (0, b)) (q := 50) 1 rfl ?_
            refine e_Ok.aald (z := b + 31) rfl (el_o rfl) rfl (by omega) ((j4 30 b no_d2_1).trans (Eq.trans (e_Has.eq hT (k30 (by omega))) (by omega))) (by omega) ?_
            refine e_Ok.ps2 (x := (1, 19)) (y := (0, y4)) (q := 54) 2 rfl ?_
            refine e_Ok.getr (z := 30) rfl (el_o rfl) rfl rfl ((j4 19 12 no_d2_0).trans (e_Has.eq hT (kt_o rfl))) ⟨by decide, by decide⟩ ?_
            refine e_Ok.ps1 (x := (0, b)) (q := 58) 1 rfl ?_
            refine e_Ok.aald (z := b + 31) rfl (el_o rfl) rfl (by omega) ((j4 30 b no_d2_1).trans (Eq.trans (e_Has.eq hT (k30 (by omega))) (by omega))) (by omega) ?_
            refine e_Ok.ps2 (x := (0, 1)) (y := (0, y4)) (q := 62) 2 rfl ?_
            refine e_Ok.sub' (z := y4 - 1) rfl rfl (by omega) ?_
            refine e_Ok.ald (z := w (b + 31) (y4 - 1)) rfl (lO (b := b) (by omega) (by omega)) rfl (by omega) eq5 (by omega) ?_
            refine e_Ok.ast rfl (lO (b := b) (by omega) (by omega)) rfl rfl (by omega) ?_
            generalize hw37 : e_up v1 (b + 31) y4 (w (b + 31) (y4 - 1)) = w37
            have hT40 : e_Has kTy w37 := e_Has.ups j5 hw37 (kO (b := b) _ (by omega) (by omega))
            refine e_Ok.inc (z := y4 - 1) rfl rfl (by first | with_reducible rfl | omega) (by omega) ?_
            show e_Ok 20 elay kcode eI d 80 (68, [(4, (0, y4 - 1)), (0, (1, 19)), (1, (0, b)), (2, (0, p)), (3, (0, s))], [], w37) _
            refine e_Ok.ps0 (q := 20) 1 rfl ?_
            refine e_Ok.sub kAlk (e_sub_of rfl ?_) (ih3 (y4 - 1) w37 ⟨(show e_fr kFl w w37 from e_fr.up j4 hw37 (by first | exact Or.inl ⟨(by omega), (by omega)⟩ | (unfold kFl; omega))), hT40, (fun c k g => by rw [← hw37, e_up_ne _ _ (Or.inl g)]; exact j6 c k g), (fun j g1 g2 => by rw [← hw37, e_up_ne _ _ (Or.inr (by omega))]; exact j7 j g1 (by omega)), (fun j g1 g2 => by rw [← hw37]; by_cases e : j = y4; (rw [e, e_up_eq]); (rw [e_up_ne _ _ (Or.inr e)]; exact j8 j (by omega) g2)), by omega, by omega⟩ (by omega))
            exact ⟨rfl, rfl, rfl, rfl, rfl, trivial⟩
    refine e_Ok.sub kAlk (e_sub_of rfl ?_) (hL2 (32 + 1 : Int).toNat (w 35 b) w ⟨(e_fr.refl w), hT, (fun _ _ _ => rfl), (fun _ _ _ => rfl), (fun j g1 g2 => by omega), by omega, by omega⟩ (by omega))
    exact ⟨rfl, rfl, rfl, rfl, rfl, trivial⟩
  · replace h1 : (w 35 b : Int) ≥ 32 := Int.not_lt.mp (show ¬ ((w 35 b : Int) < 32) from h1)
    refine e_Ok.rets rfl rfl ?_
    exact ⟨rfl, (e_fr.refl w), hT, Or.inl ⟨by omega, rfl⟩⟩
theorem c_78_k {d : Nat} (hd : 22 ≤ d) {w : eW} (hT : e_Has kTy w) {p : Int} (gp : 0 ≤ p ∧ p ≤ 31) (hf : fKn w p) (hF : w (p + 42) 0 < 4 → w (p + 42) 0 < w 19 0) : e_Ok 20 elay kcode eI d 78 (0, [(0, (1, 19)), (1, (0, p))], [], w) (fun r w' => r = [] ∧ e_fr kFl w w' ∧ e_Has kTy w' ∧ fKn w' (p + 1)) := by
  obtain ⟨d, rfl⟩ : ∃ e, d = e + 1 := ⟨d - 1, by omega⟩
  have hB := e_Has.get hT (c := 19) (k := 0) (lo := 0) (hi := 4) (kt_o rfl) (by decide)
  have hG0 := e_Has.get hT (c := p + 42) (k := 0) (kG_0 (p := p) rfl gp) (by decide)
  have hG1 := e_Has.get hT (c := p + 42) (k := 1) (kG_1 (p := p) rfl gp) (by decide)
  have hG2 := e_Has.get hT (c := p + 42) (k := 2) (kG_2 (p := p) rfl gp) (by decide)
  have hG3 := e_Has.get hT (c := p + 42) (k := 3) (kG_3 (p := p) rfl gp) (by decide)
  refine e_Ok.ps1 (x := (1, 19)) (q := 1) 1 rfl ?_
  refine e_Ok.getr (z := 41) rfl (el_o rfl) rfl rfl (e_Has.eq hT (kt_o rfl)) ⟨by decide, by decide⟩ ?_
  refine e_Ok.ps1 (x := (0, p)) (q := 5) 1 rfl ?_
  refine e_Ok.aald (z := p + 42) rfl (el_o rfl) rfl (by omega) (Eq.trans (e_Has.eq hT (k41 (by omega))) (by omega)) (by omega) ?_
  refine e_Ok.ps1 (x := (0, 0)) (q := 7) 1 rfl ?_
  have h1 := (e_Has.get hT (c := p + 42) (k := 0) (lo := 0) (hi := 8) (kG_0 (p := p) (by omega) (by omega)) (by decide))
  refine e_Ok.ald (z := w (p + 42) 0) rfl (lG (p := p) (by omega) (by omega)) rfl (by omega) rfl (e_bq h1 (by decide) (by decide)) ?_
  refine e_Ok.ps1 (x := (0, 4)) (q := 9) 1 rfl ?_
  refine e_Ok.if2 rfl (fun h2 => ?_) (fun h2 => ?_)
  · replace h2 : (w (p + 42) 0 : Int) ≥ 4 := h2
    refine e_Ok.ps3 (x := (1, 19)) (y := (0, p)) (z := (1, 19)) (q := 39) 3 rfl ?_
    refine e_Ok.getr (z := 41) rfl (el_o rfl) rfl rfl (e_Has.eq hT (kt_o rfl)) ⟨by decide, by decide⟩ ?_
    refine e_Ok.ps1 (x := (0, p)) (q := 43) 1 rfl ?_
    refine e_Ok.aald (z := p + 42) rfl (el_o rfl) rfl (by omega) (Eq.trans (e_Has.eq hT (k41 (by omega))) (by omega)) (by omega) ?_
    refine e_Ok.ps1 (x := (0, 2)) (q := 45) 1 rfl ?_
    have h3 := (e_Has.get hT (c := p + 42) (k := 2) (lo := (-2147483648)) (hi := 2147483647) (kG_2 (p := p) (by omega) (by omega)) (by decide))
    refine e_Ok.ald (z := w (p + 42) 2) rfl (lG (p := p) (by omega) (by omega)) rfl (by omega) rfl (e_bq h3 (by decide) (by decide)) ?_
    refine e_Ok.ps1 (x := (1, 19)) (q := 47) 1 rfl ?_
    refine e_Ok.getr (z := 41) rfl (el_o rfl) rfl rfl (e_Has.eq hT (kt_o rfl)) ⟨by decide, by decide⟩ ?_
    refine e_Ok.ps1 (x := (0, p)) (q := 51) 1 rfl ?_
    refine e_Ok.aald (z := p + 42) rfl (el_o rfl) rfl (by omega) (Eq.trans (e_Has.eq hT (k41 (by omega))) (by omega)) (by omega) ?_
    refine e_Ok.ps1 (x := (0, 3)) (q := 53) 1 rfl ?_
    have h4 := (e_Has.get hT (c := p + 42) (k := 3) (lo := (-2147483648)) (hi := 2147483647) (kG_3 (p := p) (by omega) (by omega)) (by decide))
    refine e_Ok.ald (z := w (p + 42) 3) rfl (lG (p := p) (by omega) (by omega)) rfl (by omega) rfl (e_bq h4 (by decide) (by decide)) ?_
    refine e_Ok.callV rfl (e_dq hd rfl) rfl rfl rfl rfl (c_79_k hT (by omega) (by omega) (by omega)) (fun r5 w6 h7 => ?_)
    obtain ⟨rfl, q8f, q8T, q8x⟩ := h7
    refine e_Ok.nrm (q := 57) (st' := []) rfl rfl ?_
    refine e_Ok.rets rfl rfl ?_
    obtain ⟨z8, x1, x2, rfl, k1, k2, k3⟩ := q8x
    exact ⟨rfl, (show e_fr kFl w w6 from e_fr.trans (e_fr.refl w) (e_fr.mono q8f (fun c k q => by exact q))), q8T, hf.lie (by omega) (by omega) (show kn1 (w (p + 42) 2) from by unfold kn1; omega) (show kn1 (w (p + 42) 3) from by unfold kn1; omega) k1 k2 k3⟩
  · replace h2 : (w (p + 42) 0 : Int) < 4 := Int.not_le.mp (show ¬ ((w (p + 42) 0 : Int) ≥ 4) from h2)
    refine e_Ok.ps2 (x := (1, 19)) (y := (1, 19)) (q := 14) 2 rfl ?_
    refine e_Ok.getr (z := 41) rfl (el_o rfl) rfl rfl (e_Has.eq hT (kt_o rfl)) ⟨by decide, by decide⟩ ?_
    refine e_Ok.ps1 (x := (0, p)) (q := 18) 1 rfl ?_
    refine e_Ok.aald (z := p + 42) rfl (el_o rfl) rfl (by omega) (Eq.trans (e_Has.eq hT (k41 (by omega))) (by omega)) (by omega) ?_
    refine e_Ok.ps1 (x := (0, 0)) (q := 20) 1 rfl ?_
    refine e_Ok.ald (z := w (p + 42) 0) rfl (lG (p := p) (by omega) (by omega)) rfl (by omega) rfl (by omega) ?_
    refine e_Ok.ps2 (x := (1, 19)) (y := (0, p)) (q := 23) 2 rfl ?_
    refine e_Ok.getr (z := 41) rfl (el_o rfl) rfl rfl (e_Has.eq hT (kt_o rfl)) ⟨by decide, by decide⟩ ?_
    refine e_Ok.ps1 (x := (0, p)) (q := 27) 1 rfl ?_
    refine e_Ok.aald (z := p + 42) rfl (el_o rfl) rfl (by omega) (Eq.trans (e_Has.eq hT (k41 (by omega))) (by omega)) (by omega) ?_
    refine e_Ok.ps1 (x := (0, 1)) (q := 29) 1 rfl ?_
    have h10 := (e_Has.get hT (c := p + 42) (k := 1) (lo := (-2147483648)) (hi := 2147483647) (kG_1 (p := p) (by omega) (by omega)) (by decide))
    refine e_Ok.ald (z := w (p + 42) 1) rfl (lG (p := p) (by omega) (by omega)) rfl (by omega) rfl (e_bq h10 (by decide) (by decide)) ?_
    have hb := hF (by omega)
    refine e_Ok.callV rfl (e_dq hd rfl) rfl rfl rfl rfl (c_80_k hT (by omega) (by omega) (by omega) (hf.ord (by omega) (by omega) (by omega))) (fun r11 w12 h13 => ?_)
    obtain ⟨rfl, q14f, q14T, q14x⟩ := h13
    refine e_Ok.nrm (q := 33) (st' := []) rfl rfl ?_
    refine e_Ok.ps0 (q := 57) 1 rfl ?_
    refine e_Ok.rets rfl rfl ?_
    exact ⟨rfl, (show e_fr kFl w w12 from e_fr.trans (e_fr.refl w) (e_fr.mono q14f (fun c k q => by exact q))), q14T, hf.come (by omega) (by omega) (by omega) (show kn1 (w (p + 42) 1) from by unfold kn1; omega) q14x⟩
theorem c_77_k {d : Nat} (hd : 23 ≤ d) {w : eW} (hT : e_Has kTy w) (hF : ∀ p, 0 ≤ p → p < w 19 1 → w (p + 42) 0 < 4 → w (p + 42) 0 < w 19 0) : e_Ok 20 elay kcode eI d 77 (0, [(0, (1, 19))], [], w) (fun r w' => r = [] ∧ e_fr kFl w w' ∧ e_Has kTy w' ∧ fK w') := by
  obtain ⟨d, rfl⟩ : ∃ e, d = e + 1 := ⟨d - 1, by omega⟩
  have hB := e_Has.get hT (c := 19) (k := 0) (lo := 0) (hi := 4) (kt_o rfl) (by decide)
  have hP := e_Has.get hT (c := 19) (k := 1) (lo := 0) (hi := 32) (kt_o rfl) (by decide)
  refine e_Ok.run (t' := (2, [(1, (0, 0)), (0, (1, 19))], [], w)) 2 rfl ?_
  have hL1 : ∀ (nn : Nat) (y1 : Int) (v1 : eW), e_fr kFl w v1 ∧ e_Has kTy v1 ∧ (∀ i, 0 ≤ i → i < y1 → v1 35 i = 0) ∧ (0 ≤ y1 ∧ y1 ≤ 4) → 4 - y1 < nn → e_Ok 20 elay kcode eI (d + 1) 77 (2, [(0, (1, 19)), (1, (0, y1))], [], v1) (fun r w' => r = [] ∧ e_fr kFl w w' ∧ e_Has kTy w' ∧ fK w') := by
    intro nn
    induction nn with
    | zero => intro y1 v1 hj hm; obtain ⟨j3, j4, j5, j6⟩ := hj; exfalso; omega
    | succ nn ih2 =>
      intro y1 v1 hj hm
      obtain ⟨j3, j4, j5, j6⟩ := hj
      refine e_Ok.run (t' := (4, [(0, (1, 19)), (1, (0, y1))], [(1, 19), (0, y1)], v1)) 2 rfl ?_
      have h7 := (e_Has.get hT (c := 19) (k := 0) (lo := 0) (hi := 4) (kt_o rfl) (by decide))
      refine e_Ok.getf (z := w 19 0) rfl (el_o rfl) rfl rfl ((j3 19 0 no_d2_0).trans rfl) (e_bq h7 (by decide) (by decide)) ?_
      refine e_Ok.if2 rfl (fun h8 => ?_) (fun h8 => ?_)
      · replace h8 : (y1 : Int) ≥ w 19 0 := h8
        refine e_Ok.run (t' := (25, [(1, (0, 0)), (0, (1, 19))], [], v1)) 2 rfl ?_
        have hL9 : ∀ (nn : Nat) (y1b : Int) (v2 : eW), e_fr kFl w v2 ∧ e_Has kTy v2 ∧ fKn v2 y1b ∧ y1b ≤ w 19 1 ∧ (0 ≤ y1b ∧ y1b ≤ 32) → 32 - y1b < nn → e_Ok 20 elay kcode eI (d + 1) 77 (25, [(0, (1, 19)), (1, (0, y1b))], [], v2) (fun r w' => r = [] ∧ e_fr kFl w w' ∧ e_Has kTy w' ∧ fK w') := by
          intro nn
          induction nn with
          | zero => intro y1b v2 hj hm; obtain ⟨j11, j12, j13, j14, j15⟩ := hj; exfalso; omega
          | succ nn ih10 =>
            intro y1b v2 hj hm
            obtain ⟨j11, j12, j13, j14, j15⟩ := hj
            refine e_Ok.run (t' := (27, [(0, (1, 19)), (1, (0, y1b))], [(1, 19), (0, y1b)], v2)) 2 rfl ?_
            have h16 := (e_Has.get hT (c := 19) (k := 1) (lo := 0) (hi := 32) (kt_o rfl) (by decide))
            refine e_Ok.getf (z := w 19 1) rfl (el_o rfl) rfl rfl ((j11 19 1 no_d2_0).trans rfl) (e_bq h16 (by decide) (by decide)) ?_
            refine e_Ok.if2 rfl (fun h17 => ?_) (fun h17 => ?_)
            · replace h17 : (y1b : Int) ≥ w 19 1 := h17
              refine e_Ok.rets rfl rfl ?_
              exact ⟨rfl, j11, j12, (show fKn v2 (w 19 1) from by have g := j13; rw [show y1b = w 19 1 by omega] at g; exact g).fK (j11 19 1 no_d2_0) (by omega)⟩
            · replace h17 : (y1b : Int) < w 19 1 := Int.not_le.mp (show ¬ ((y1b : Int) ≥ w 19 1) from h17)
              refine e_Ok.ps2 (x := (0, y1b)) (y := (1, 19)) (q := 35) 2 rfl ?_
              refine e_Ok.callV rfl (e_dq hd rfl) rfl rfl rfl rfl (c_78_k (e_dq hd rfl) j12 (by omega) j13 (by rw [j11 _ 0 (by unfold kFl; omega), j11 19 0 no_d2_0]; exact hF y1b (by omega) (by omega))) (fun r18 w19 h20 => ?_)
              obtain ⟨rfl, q21f, q21T, q21x⟩ := h20
              refine e_Ok.nrm (q := 38) (st' := []) rfl rfl ?_
              refine e_Ok.inc (z := y1b + 1) rfl rfl (by first | with_reducible rfl | omega) (by omega) ?_
              show e_Ok 20 elay kcode eI (d + 1) 77 (41, [(1, (0, y1b + 1)), (0, (1, 19))], [], w19) _
              refine e_Ok.ps0 (q := 25) 1 rfl ?_
              refine e_Ok.sub kAlk (e_sub_of rfl ?_) (ih10 (y1b + 1) w19 ⟨(show e_fr kFl w w19 from e_fr.trans j11 (e_fr.mono q21f (fun c k q => by exact q))), q21T, q21x, by omega, by omega⟩ (by omega))
              exact ⟨rfl, rfl, trivial⟩
        refine e_Ok.sub kAlk (e_sub_of rfl ?_) (hL9 (32 + 1 : Int).toNat 0 v1 ⟨j3, j4, ⟨fun b g1 g2 => by rw [j3 19 0 no_d2_0] at g2; have z := j5 b g1 (by omega); exact ⟨by omega, fun i g3 g4 => by omega⟩, fun p g1 g2 => by omega⟩, by omega, by omega⟩ (by omega))
        exact ⟨rfl, rfl, trivial⟩
      · replace h8 : (y1 : Int) < w 19 0 := Int.not_le.mp (show ¬ ((y1 : Int) ≥ w 19 0) from h8)
        refine e_Ok.ps1 (x := (1, 19)) (q := 11) 1 rfl ?_
        refine e_Ok.getr (z := 35) rfl (el_o rfl) rfl rfl ((j3 19 13 no_d2_0).trans (e_Has.eq hT (kt_o rfl))) ⟨by decide, by decide⟩ ?_
        refine e_Ok.ps2 (x := (0, 0)) (y := (0, y1)) (q := 16) 2 rfl ?_
        refine e_Ok.ast rfl (el_o rfl) rfl rfl (by omega) ?_
        generalize hw23 : e_up v1 35 y1 0 = w23
        have hT25 : e_Has kTy w23 := e_Has.ups j4 hw23 rfl
        refine e_Ok.inc (z := y1 + 1) rfl rfl (by first | with_reducible rfl | omega) (by omega) ?_
        show e_Ok 20 elay kcode eI (d + 1) 77 (20, [(1, (0, y1 + 1)), (0, (1, 19))], [], w23) _
        refine e_Ok.ps0 (q := 2) 1 rfl ?_
        refine e_Ok.sub kAlk (e_sub_of rfl ?_) (ih2 (y1 + 1) w23 ⟨(show e_fr kFl w w23 from e_fr.up j3 hw23 (by first | exact Or.inl ⟨(by decide), (by decide)⟩ | (unfold kFl; omega))), hT25, (fun i g1 g2 => by rw [← hw23]; by_cases e : i = y1; (rw [e, e_up_eq]); (rw [e_up_ne _ _ (Or.inr e)]; exact j5 i g1 (by omega))), by omega⟩ (by omega))
        exact ⟨rfl, rfl, trivial⟩
  refine e_Ok.sub kAlk (e_sub_of rfl ?_) (hL1 (4 + 1 : Int).toNat 0 w ⟨(e_fr.refl w), hT, (fun i g1 g2 => by omega), by omega⟩ (by omega))
  exact ⟨rfl, rfl, trivial⟩
end
end
-- part d3
section
noncomputable section
/-! the class: all is as at the beginning -/
theorem nw_kAr {a c k : Int} (ha : 0 ≤ a ∧ a ≤ 3) (q : kAr a c k) : kNw c k := by
  unfold kAr at q
  rcases q with q | q | q | q | q | q
  · exact Or.inr (Or.inr (Or.inr (Or.inr (Or.inr (Or.inr (Or.inr (Or.inr (Or.inr (Or.inr (Or.inr (Or.inr (Or.inr (Or.inl (by omega))))))))))))))
  · exact Or.inr (Or.inr (Or.inr (Or.inr (Or.inr (Or.inr (Or.inr (Or.inr (Or.inr (Or.inr (Or.inr (Or.inr (Or.inr (Or.inr (Or.inr (Or.inr ((by omega)))))))))))))))))
  · exact Or.inr (Or.inr (Or.inr (Or.inr (Or.inr (Or.inr (Or.inr (Or.inr (Or.inr (Or.inr (Or.inr (Or.inr (Or.inr (Or.inr (Or.inl (by omega)))))))))))))))
  · exact Or.inr (Or.inr (Or.inr (Or.inr (Or.inr (Or.inr (Or.inr (Or.inr (Or.inr (Or.inr (Or.inr (Or.inr (Or.inr (Or.inr (Or.inl (by omega)))))))))))))))
  · exact Or.inr (Or.inr (Or.inr (Or.inr (Or.inr (Or.inr (Or.inr (Or.inr (Or.inr (Or.inr (Or.inr (Or.inr (Or.inr (Or.inr (Or.inl (by omega)))))))))))))))
  · exact Or.inr (Or.inr (Or.inr (Or.inr (Or.inr (Or.inr (Or.inr (Or.inr (Or.inr (Or.inr (Or.inr (Or.inr (Or.inr (Or.inr (Or.inr (Or.inl (by omega))))))))))))))))
theorem nw_kPr {c k : Int} (q : kPr c k) : kNw c k := by
  unfold kPr at q
  rcases q with q | q
  · exact Or.inr (Or.inr (Or.inr (Or.inr (Or.inr (Or.inl (by omega))))))
  · exact Or.inr (Or.inr (Or.inr (Or.inr (Or.inr (Or.inr (Or.inl (by omega)))))))
theorem nw_kCr {c k : Int} (q : kCr c k) : kNw c k := by
  unfold kCr at q
  rcases q with q | q
  · exact Or.inl (by omega)
  · exact Or.inr (Or.inr (Or.inl (by omega)))
theorem nw_kDr {c k : Int} (q : kDr c k) : kNw c k := by
  unfold kDr at q
  rcases q with q | q | q
  · exact Or.inr (Or.inr (Or.inr (Or.inr (Or.inr (Or.inr (Or.inr (Or.inr (Or.inr (Or.inl (by omega))))))))))
  · exact Or.inr (Or.inr (Or.inr (Or.inl (by omega))))
  · exact Or.inr (Or.inr (Or.inr (Or.inr (Or.inl (by omega)))))
theorem nw_kF72 {c k : Int} (q : kF72 c k) : kNw c k := by
  unfold kF72 at q
  exact Or.inr (Or.inr (Or.inr (Or.inr (Or.inr (Or.inr (Or.inr (Or.inr (Or.inr (Or.inr (Or.inr (Or.inr (Or.inl (by omega)))))))))))))
section D3
variable {w w' v : eW}
theorem Kc.of (f : e_fr kNh w v) (hT : e_Has kTy w) (hT' : e_Has kTy v) (ho : ∀ c k, e_out elay c k → v c k = w c k) : ∀ c k, Kc c k → v c k = w c k := fun c k q => by
  rcases q.2 with q | q | q
  · exact f c k q
  · have h1 := hT c k (by omega)
    have h2 := hT' c k (by omega)
    omega
  · exact ho c k q
/-- what the arm a, and the floor, are at the beginning: by what was told alone -/
def PA (w : eW) (a : Int) : eW := (k_phi 3 (0, [(0, (1, 17 * a + 86))], [], e_pz Kc w)).2
def PF (w : eW) : eW := (k_phi 77 (0, [(0, (1, 19))], [], e_pz Kc w)).2
theorem Kc_0 {c : Int} {k : Int} (h : (0 ≤ c ∧ c ≤ 274) ∧ ¬ kNh c k) : Kc c k := ⟨h.1, Or.inl h.2⟩
theorem c_3_r {d : Nat} (hd : 24 ≤ d) (hT : e_Has kTy w) (hTv : e_Has kTy v) (hK : ∀ c k, Kc c k → v c k = w c k) {a : Int} (ga : 0 ≤ a ∧ a ≤ 3) (hx : kn1 (w (17 * a + 88) 0)) (hy : kn1 (w (17 * a + 89) 0)) : e_Ok 20 elay kcode eI d 3 (0, [(0, (1, 17 * a + 86))], [], v) (fun r v' => ((r = [] ∧ e_fr (kAr a) v v' ∧ e_Has kTy v' ∧ aR0 v' a ∧ aP v' a) ∧ r = (k_phi 3 (0, [(0, (1, 17 * a + 86))], [], e_pz Kc w)).1 ∧ e_rf (PA w a) v') ∧ ∀ c k, e_out elay c k → v' c k = v c k) := by
  have n8 : (0 ≤ 17 * a + 88 ∧ 17 * a + 88 ≤ 274) ∧ ¬ kNh (17 * a + 88) 0 := ⟨by omega, by unfold kNh kNw; omega⟩
  have n9 : (0 ≤ 17 * a + 89 ∧ 17 * a + 89 ≤ 274) ∧ ¬ kNh (17 * a + 89) 0 := ⟨by omega, by unfold kNh kNw; omega⟩
  refine k_rel (nd1 _ _) ?_ (c_3_z hd (kTy.cy hT).cpz ga (by rw [e_pz_in (Kc_0 n8)]; exact hx) (by rw [e_pz_in (Kc_0 n9)]; exact hy)) (c_3_k hd hTv ga (by rw [hK _ _ (Kc_0 n8)]; exact hx) (by rw [hK _ _ (Kc_0 n9)]; exact hy))
  rw [← e_pzK hK]
  exact e_pz_rf Kc v
theorem PA_ok (hT : e_Has kTy w) {a : Int} (ga : 0 ≤ a ∧ a ≤ 3) (hx : kn1 (w (17 * a + 88) 0)) (hy : kn1 (w (17 * a + 89) 0)) : e_fr (kAr a) (e_pz Kc w) (PA w a) ∧ aR0 (PA w a) a := by
  have n8 : (0 ≤ 17 * a + 88 ∧ 17 * a + 88 ≤ 274) ∧ ¬ kNh (17 * a + 88) 0 := ⟨by omega, by unfold kNh kNw; omega⟩
  have n9 : (0 ≤ 17 * a + 89 ∧ 17 * a + 89 ≤ 274) ∧ ¬ kNh (17 * a + 89) 0 := ⟨by omega, by unfold kNh kNw; omega⟩
  have h := k_phi_ok (c_3_z (d := 24) (by decide) (kTy.cy hT).cpz ga (by rw [e_pz_in (Kc_0 n8)]; exact hx) (by rw [e_pz_in (Kc_0 n9)]; exact hy))
  exact ⟨h.2.1, h.2.2.2⟩
def fFt (w : eW) : Prop := ∀ p, 0 ≤ p → p < w 19 1 → w (p + 42) 0 < 4 → w (p + 42) 0 < w 19 0
theorem fFt.eq (h : ∀ c k, Kc c k → v c k = w c k) (q : fFt w) (hm : w 19 1 ≤ 32) : fFt v := fun p g1 g2 g3 => by
  rw [h 19 1 (Kc_0 ⟨by omega, by unfold kNh kNw; omega⟩)] at g2
  rw [h (p + 42) 0 (Kc_0 ⟨by omega, by unfold kNh kNw; omega⟩)] at g3 ⊢
  rw [h 19 0 (Kc_0 ⟨by omega, by unfold kNh kNw; omega⟩)]
  exact q p g1 g2 g3
theorem c_77_r {d : Nat} (hd : 23 ≤ d) (hT : e_Has kTy w) (hTv : e_Has kTy v) (hK : ∀ c k, Kc c k → v c k = w c k) (hF : fFt w) : e_Ok 20 elay kcode eI d 77 (0, [(0, (1, 19))], [], v) (fun r v' => ((r = [] ∧ e_fr kFl v v' ∧ e_Has kTy v' ∧ fK v') ∧ r = (k_phi 77 (0, [(0, (1, 19))], [], e_pz Kc w)).1 ∧ e_rf (PF w) v') ∧ ∀ c k, e_out elay c k → v' c k = v c k) := by
  have hm := e_Has.get hT (c := 19) (k := 1) (lo := 0) (hi := 32) (kt_o rfl) (by decide)
  refine k_rel (nd1 _ _) ?_ (c_77_z hd (kTy.cy hT).cpz (hF.eq (fun c k q => e_pz_in q) (by omega))) (c_77_k hd hTv (hF.eq hK (by omega)))
  rw [← e_pzK hK]
  exact e_pz_rf Kc v
theorem PF_ok (hT : e_Has kTy w) (hF : fFt w) : e_fr kFl (e_pz Kc w) (PF w) ∧ fK (PF w) := by
  have hm := e_Has.get hT (c := 19) (k := 1) (lo := 0) (hi := 32) (kt_o rfl) (by decide)
  have h := k_phi_ok (c_77_z (d := 24) (by decide) (kTy.cy hT).cpz (hF.eq (fun c k q => e_pz_in q) (by omega)))
  exact ⟨h.2.1, h.2.2.2⟩
theorem aR0.fr {S : Int → Int → Prop} {a : Int} (ga : 0 ≤ a ∧ a ≤ 3) (f : e_fr S w w') (hS : ∀ c k, 17 * a + 86 ≤ c → c ≤ 17 * a + 102 → ¬ S c k) (h : aR0 w a) : aR0 w' a := by
  have e : ∀ c k, 17 * a + 86 ≤ c → c ≤ 17 * a + 102 → w' c k = w c k := fun c k g1 g2 => f c k (hS c k g1 g2)
  obtain ⟨h1, h2, h3, h4, h5⟩ := h
  refine ⟨?_, fun j g1 g2 => ?_, fun k g1 g2 => ?_, h4.eq (fun c k g => e c k (by omega) (by omega)), h5.eq (fun c k g => e c k (by omega) (by omega))⟩
  · rw [e _ 11 (by omega) (by omega), e _ 13 (by omega) (by omega), e _ 14 (by omega) (by omega), e _ 15 (by omega) (by omega), e _ 16 (by omega) (by omega), e _ 17 (by omega) (by omega), e _ 18 (by omega) (by omega), e _ 19 (by omega) (by omega)]
    exact h1
  · rw [e _ 7 (by omega) (by omega), e _ 8 (by omega) (by omega), e _ 9 (by omega) (by omega)]
    exact h2 j g1 g2
  · rw [e _ k (by omega) (by omega)]
    exact h3 k g1 g2
theorem kAr.rg {a c k : Int} (h : kAr a c k) : 17 * a + 86 ≤ c ∧ c ≤ 17 * a + 102 := by unfold kAr at h; omega
theorem cR0.fr {S : Int → Int → Prop} (f : e_fr S w w') (hS : ∀ c k, 74 ≤ c → c ≤ 81 → ¬ S c k) (h : cR0 w) : cR0 w' := by
  have e : ∀ c k, 74 ≤ c → c ≤ 81 → w' c k = w c k := fun c k g1 g2 => f c k (hS c k g1 g2)
  unfold cR0 at h ⊢
  rw [e 74 0 (by omega) (by omega), e 74 1 (by omega) (by omega), e 74 3 (by omega) (by omega), e 74 4 (by omega) (by omega), e 74 5 (by omega) (by omega), e 74 6 (by omega) (by omega), e 74 7 (by omega) (by omega)]
  refine ⟨h.1, fun i g1 g2 => ?_⟩
  rw [e 78 i (by omega) (by omega), e 79 i (by omega) (by omega), e 80 i (by omega) (by omega), e 81 i (by omega) (by omega)]
  exact h.2 i g1 g2
/-- behind rewind -/
def rwA (w v : eW) (a : Int) : Prop := aR0 v a ∧ (∀ c k, kAr a c k → e_okz (PA w a c k) = true → v c k = PA w a c k) ∧ aP v a
theorem aP.frN {S : Int → Int → Prop} {a : Int} (ga : 0 ≤ a ∧ a ≤ 3) (f : e_fr S w w') (hT : e_Has kTy w) (hT' : e_Has kTy w') (hN : ∀ c k, S c k → kNw c k) (hS : ∀ c k, 17 * a + 86 ≤ c → c ≤ 17 * a + 102 → ¬ S c k) (h : aP w a) : aP w' a := by
  have hjn := kn_joints hT ga
  refine h.eq (f _ _ (hS _ _ (by omega) (by omega))) (fun c k q => ?_) (fun k g => ⟨f _ _ (hS _ _ (by omega) (by omega)), f _ _ (hS _ _ (by omega) (by omega))⟩)
  rcases q with q | ⟨j, hj, rfl, rfl⟩
  · exact Kq.of (f.mono (fun c k g => Or.inl (hN c k g))) hT hT' c k q
  · exact f _ _ (hS _ _ (by omega) (by omega))
def rwF (w v : eW) : Prop := fK v ∧ ∀ c k, kFl c k → e_okz (PF w c k) = true → v c k = PF w c k
def rwP (w v : eW) : Prop := ((∀ p, 0 ≤ p → p < 64 → v 11 p = 0) ∧ (∀ p, 0 ≤ p → p < 64 → v 16 p = 0) ∧ ∀ p, 0 ≤ p → p < 64 → v 13 p = 0) ∧ ∀ V, vFx w V → pTo w → ∀ k, 0 ≤ k → k < 64 → v 12 (w 18 k) = V (w 18 k)
def rwD (v : eW) : Prop := (∀ t, 0 ≤ t → t ≤ 15 → tR0 v t) ∧ (∀ k, 0 ≤ k → k < 8 → v 83 k = -1) ∧ v 8 9 = 0
def rw0 (w v : eW) : Prop := (∀ a, 0 ≤ a → a ≤ 3 → rwA w v a) ∧ rwF w v ∧ rwP w v ∧ cR0 v ∧ rwD v ∧ ∀ k, 0 ≤ k → k < 6 → v 272 k = 0
theorem rwA.fr {S : Int → Int → Prop} {a : Int} {w v v' : eW} (hT : e_Has kTy v) (hT' : e_Has kTy v') (hN : ∀ c k, S c k → kNw c k) (ga : 0 ≤ a ∧ a ≤ 3) (f : e_fr S v v') (hS : ∀ c k, 17 * a + 86 ≤ c → c ≤ 17 * a + 102 → ¬ S c k) (h : rwA w v a) : rwA w v' a := ⟨h.1.fr ga f hS, fun c k g1 g2 => by rw [f c k (hS c k g1.rg.1 g1.rg.2)]; exact h.2.1 c k g1 g2, h.2.2.frN ga f hT hT' hN hS⟩
theorem rwF.fr {S : Int → Int → Prop} {w v v' : eW} (hB : v 19 0 ≤ 4) (f : e_fr S v v') (hS : ∀ c k, 31 ≤ c → c ≤ 40 → ¬ S c k) (h9 : ∀ k, ¬ S 19 k) (h : rwF w v) : rwF w v' := ⟨h.1.fr f (fun c k g1 g2 => hS c k g1 (by omega)) (fun k => ⟨hS _ k (by omega) (by omega), hS _ k (by omega) (by omega)⟩) ⟨h9 0, h9 1⟩ hB, fun c k g1 g2 => by rw [f c k (hS c k (by unfold kFl at g1; omega) (by unfold kFl at g1; omega))]; exact h.2 c k g1 g2⟩
theorem rwP.fr {S : Int → Int → Prop} {w v v' : eW} (f : e_fr S v v') (hS : ∀ c k, 11 ≤ c → c ≤ 16 → ¬ S c k) (h : rwP w v) : rwP w v' := by
  have e : ∀ c k, 11 ≤ c → c ≤ 16 → v' c k = v c k := fun c k g1 g2 => f c k (hS c k g1 g2)
  refine ⟨⟨fun p g1 g2 => by rw [e 11 p (by omega) (by omega)]; exact h.1.1 p g1 g2, fun p g1 g2 => by rw [e 16 p (by omega) (by omega)]; exact h.1.2.1 p g1 g2, fun p g1 g2 => by rw [e 13 p (by omega) (by omega)]; exact h.1.2.2 p g1 g2⟩, fun V g1 g2 k g3 g4 => by rw [e 12 _ (by omega) (by omega)]; exact h.2 V g1 g2 k g3 g4⟩
theorem vFx.eq {V : Int → Int} (h : ∀ k, v 15 k = w 15 k ∧ v 17 k = w 17 k) (q : vFx w V) : vFx v V := fun p g1 g2 => by
  unfold rc0
  rw [(h p).1, (h p).2]
  exact q p g1 g2
theorem pTo.eq (h : ∀ k, v 15 k = w 15 k ∧ v 18 k = w 18 k) (q : pTo w) : pTo v := fun i g1 g2 g3 => by
  rw [(h i).2, (h _).1] at g3
  obtain ⟨k, hk, e⟩ := q i g1 g2 g3
  exact ⟨k, hk, by rw [(h k).2, (h i).2, (h _).1]; exact e⟩
end D3
theorem no_d3_0 {k : Int} : ¬ kNw 0 k := by unfold kNw; omega
theorem no_d3_1 {k : Int} : ¬ kPr 0 k := by unfold kPr; omega
theorem no_d3_2 {k : Int} : ¬ kFl 0 k := by unfold kFl; omega
theorem no_d3_3 {k : Int} : ¬ kCr 0 k := by unfold kCr; omega
theorem no_d3_4 {k : Int} : ¬ kDr 0 k := by unfold kDr; omega
theorem no_d3_5 {k : Int} : ¬ kNw 9 k := by unfold kNw; omega
set_option maxHeartbeats 4000000 in
theorem c_252 {d : Nat} (hd : 26 ≤ d) {w : eW} (hT : e_Has kTy w) (hX : ∀ a, 0 ≤ a → a ≤ 3 → kn1 (w (17 * a + 88) 0) ∧ kn1 (w (17 * a + 89) 0)) (hF : fFt w) : e_Ok 20 elay kcode eI d 252 (0, [(0, (1, 0))], [], w) (fun r w' => r = [] ∧ e_fr kNw w w' ∧ e_Has kTy w' ∧ (∀ c k, e_out elay c k → w' c k = w c k) ∧ rw0 w w') := by
  obtain ⟨d, rfl⟩ : ∃ e, d = e + 1 := ⟨d - 1, by omega⟩
  refine e_Ok.run (t' := (2, [(1, (0, 0)), (0, (1, 0))], [], w)) 2 rfl ?_
  have hL1 : ∀ (nn : Nat) (y1 : Int) (v1 : eW), e_fr kNw w v1 ∧ e_Has kTy v1 ∧ (∀ c k, e_out elay c k → v1 c k = w c k) ∧ (∀ i, 0 ≤ i → i < y1 → rwA w v1 i) ∧ (0 ≤ y1 ∧ y1 ≤ 4) → 4 - y1 < nn → e_Ok 20 elay kcode eI (d + 1) 252 (2, [(0, (1, 0)), (1, (0, y1))], [], v1) (fun r w' => r = [] ∧ e_fr kNw w w' ∧ e_Has kTy w' ∧ (∀ c k, e_out elay c k → w' c k = w c k) ∧ rw0 w w') := by
    intro nn
    induction nn with
    | zero => intro y1 v1 hj hm; obtain ⟨j3, j4, j5, j6, j7⟩ := hj; exfalso; omega
    | succ nn ih2 =>
      intro y1 v1 hj hm
      obtain ⟨j3, j4, j5, j6, j7⟩ := hj
      refine e_Ok.run (t' := (4, [(0, (1, 0)), (1, (0, y1))], [(0, 4), (0, y1)], v1)) 2 rfl ?_
      refine e_Ok.if2 rfl (fun h8 => ?_) (fun h8 => ?_)
      · replace h8 : (y1 : Int) ≥ 4 := h8
        refine e_Ok.ps1 (x := (1, 0)) (q := 23) 1 rfl ?_
        refine e_Ok.getr (z := 10) rfl (el_o rfl) rfl rfl ((j3 0 3 no_d3_0).trans (e_Has.eq hT (kt_o rfl))) ⟨by decide, by decide⟩ ?_
        refine e_Ok.callV rfl (e_dq hd rfl) rfl rfl rfl rfl (e_Ok.out kAlk (c_110 (e_dq hd rfl) j4)) (fun r9 w10 h11 => ?_)
        obtain ⟨⟨rfl, q12f, q12T, q12x⟩, q12o⟩ := h11
        have f13 : e_fr kNw w w10 := e_fr.trans j3 (e_fr.mono q12f (fun c k q => by exact nw_kPr q))
        have ow10 : ∀ c k, e_out elay c k → w10 c k = w c k := fun c k g => (q12o c k g).trans (j5 c k g)
        have A1 : ∀ a, 0 ≤ a → a ≤ 3 → rwA w w10 a := fun a g1 g2 => (j6 a g1 (by omega)).fr j4 q12T (fun c k g => nw_kPr g) ⟨g1, g2⟩ q12f (fun c k g3 g4 => by unfold kPr; omega)
        have eW : ∀ c k, (c = 15 ∨ c = 17 ∨ c = 18) → v1 c k = w c k := fun c k g => j3 c k (by unfold kNw; omega)
        have P1 : rwP w w10 := ⟨q12x.1, fun V g1 g2 k g3 g4 => by have z := q12x.2 V (g1.eq (fun k => ⟨eW _ _ (by omega), eW _ _ (by omega)⟩)) (g2.eq (fun k => ⟨eW _ _ (by omega), eW _ _ (by omega)⟩)) k g3 g4; rw [eW 18 k (by omega)] at z; exact z⟩
        refine e_Ok.nrm (q := 29) (st' := []) rfl rfl ?_
        refine e_Ok.ps1 (x := (1, 0)) (q := 30) 1 rfl ?_
        refine e_Ok.getr (z := 19) rfl (el_o rfl) rfl rfl ((q12f 0 4 no_d3_1).trans ((j3 0 4 no_d3_0).trans (e_Has.eq hT (kt_o rfl)))) ⟨by decide, by decide⟩ ?_
        have hK2 := Kc.of (f13.mono (fun c k g => Or.inl g)) hT q12T ow10
        refine e_Ok.callV rfl (e_dq hd rfl) rfl rfl rfl rfl (c_77_r (e_dq hd rfl) hT q12T hK2 hF) (fun r14 w15 h16 => ?_)
        obtain ⟨⟨⟨rfl, q17f, q17T, q17x⟩, -, q17r⟩, q17o⟩ := h16
        have ow15 : ∀ c k, e_out elay c k → w15 c k = w c k := fun c k g => (q17o c k g).trans (ow10 c k g)
        have A2 : ∀ a, 0 ≤ a → a ≤ 3 → rwA w w15 a := fun a g1 g2 => (A1 a g1 g2).fr q12T q17T (fun c k g => nw_kFl g) ⟨g1, g2⟩ q17f (fun c k g3 g4 => by unfold kFl; omega)
        have P2 : rwP w w15 := P1.fr q17f (fun c k g3 g4 => by unfold kFl; omega)
        have F2 : rwF w w15 := ⟨q17x, fun c k g1 g2 => q17r c k g2⟩
        refine e_Ok.nrm (q := 36) (st' := []) rfl rfl ?_
        refine e_Ok.ps1 (x := (1, 0)) (q := 37) 1 rfl ?_
        refine e_Ok.getr (z := 74) rfl (el_o rfl) rfl rfl ((q17f 0 5 no_d3_2).trans ((q12f 0 5 no_d3_1).trans ((j3 0 5 no_d3_0).trans (e_Has.eq hT (kt_o rfl))))) ⟨by decide, by decide⟩ ?_
        refine e_Ok.callV rfl (e_dq hd rfl) rfl rfl rfl rfl (e_Ok.out kAlk (c_26 q17T)) (fun r19 w20 h21 => ?_)
        obtain ⟨⟨rfl, q22f, q22T, q22x⟩, q22o⟩ := h21
        have ow20 : ∀ c k, e_out elay c k → w20 c k = w c k := fun c k g => (q22o c k g).trans (ow15 c k g)
        have A3 : ∀ a, 0 ≤ a → a ≤ 3 → rwA w w20 a := fun a g1 g2 => (A2 a g1 g2).fr q17T q22T (fun c k g => nw_kCr g) ⟨g1, g2⟩ q22f (fun c k g3 g4 => by unfold kCr; omega)
        have P3 : rwP w w20 := P2.fr q22f (fun c k g3 g4 => by unfold kCr; omega)
        have F3 : rwF w w20 := F2.fr (by have g := e_Has.get q17T (c := 19) (k := 0) (lo := 0) (hi := 4) (kt_o rfl) (by decide); omega) q22f (fun c k g3 g4 => by unfold kCr; omega) (fun k => by unfold kCr; omega)
        refine e_Ok.nrm (q := 43) (st' := []) rfl rfl ?_
        refine e_Ok.ps1 (x := (1, 0)) (q := 44) 1 rfl ?_
        refine e_Ok.getr (z := 8) rfl (el_o rfl) rfl rfl ((q22f 0 1 no_d3_3).trans ((q17f 0 1 no_d3_2).trans ((q12f 0 1 no_d3_1).trans ((j3 0 1 no_d3_0).trans (e_Has.eq hT (kt_o rfl)))))) ⟨by decide, by decide⟩ ?_
        refine e_Ok.callV rfl (e_dq hd rfl) rfl rfl rfl rfl (e_Ok.out kAlk (c_35 (e_dq hd rfl) q22T)) (fun r24 w25 h26 => ?_)
        obtain ⟨⟨rfl, q27f, q27T, q27x⟩, q27o⟩ := h26
        have ow25 : ∀ c k, e_out elay c k → w25 c k = w c k := fun c k g => (q27o c k g).trans (ow20 c k g)
        have A4 : ∀ a, 0 ≤ a → a ≤ 3 → rwA w w25 a := fun a g1 g2 => (A3 a g1 g2).fr q22T q27T (fun c k g => nw_kDr g) ⟨g1, g2⟩ q27f (fun c k g3 g4 => by unfold kDr; omega)
        have P4 : rwP w w25 := P3.fr q27f (fun c k g3 g4 => by unfold kDr; omega)
        have F4 : rwF w w25 := F3.fr (by have g := e_Has.get q22T (c := 19) (k := 0) (lo := 0) (hi := 4) (kt_o rfl) (by decide); omega) q27f (fun c k g3 g4 => by unfold kDr; omega) (fun k => by unfold kDr; omega)
        have C4 : cR0 w25 := cR0.fr q27f (fun c k g3 g4 => by unfold kDr; omega) q22x
        refine e_Ok.nrm (q := 50) (st' := []) rfl rfl ?_
        refine e_Ok.ps1 (x := (1, 0)) (q := 51) 1 rfl ?_
        refine e_Ok.getr (z := 272) rfl (el_o rfl) rfl rfl ((q27f 0 8 no_d3_4).trans ((q22f 0 8 no_d3_3).trans ((q17f 0 8 no_d3_2).trans ((q12f 0 8 no_d3_1).trans ((j3 0 8 no_d3_0).trans (e_Has.eq hT (kt_o rfl))))))) ⟨by decide, by decide⟩ ?_
        refine e_Ok.ps1 (x := (0, 0)) (q := 55) 1 rfl ?_
        refine e_Ok.callS rfl (e_dq hd rfl) rfl rfl (e_Ok.out kAlk (c_452_72 q27T)) (fun r29 w30 h31 => ?_)
        obtain ⟨⟨rfl, q32f, q32T, q32x⟩, q32o⟩ := h31
        have ow30 : ∀ c k, e_out elay c k → w30 c k = w c k := fun c k g => (q32o c k g).trans (ow25 c k g)
        have A5 : ∀ a, 0 ≤ a → a ≤ 3 → rwA w w30 a := fun a g1 g2 => (A4 a g1 g2).fr q27T q32T (fun c k g => nw_kF72 g) ⟨g1, g2⟩ q32f (fun c k g3 g4 => by unfold kF72; omega)
        have P5 : rwP w w30 := P4.fr q32f (fun c k g3 g4 => by unfold kF72; omega)
        have F5 : rwF w w30 := F4.fr (by have g := e_Has.get q27T (c := 19) (k := 0) (lo := 0) (hi := 4) (kt_o rfl) (by decide); omega) q32f (fun c k g3 g4 => by unfold kF72; omega) (fun k => by unfold kF72; omega)
        have C5 : cR0 w30 := cR0.fr q32f (fun c k g3 g4 => by unfold kF72; omega) C4
        have D5 : rwD w30 := ⟨fun t g1 g2 => (q27x.1 t g1 g2).fr q32f (fun k => by unfold kF72; omega), fun k g1 g2 => by rw [q32f _ _ (by unfold kF72; omega)]; exact q27x.2.1 k g1 g2, by rw [q32f _ _ (by unfold kF72; omega)]; exact q27x.2.2⟩
        refine e_Ok.nrm (q := 58) (st' := []) rfl rfl ?_
        refine e_Ok.rets rfl rfl ?_
        exact ⟨rfl, (show e_fr kNw w w30 from e_fr.trans (show e_fr kNw w w25 from e_fr.trans (show e_fr kNw w w20 from e_fr.trans (show e_fr kNw w w15 from e_fr.trans f13 (e_fr.mono q17f (fun c k q => by exact nw_kFl q))) (e_fr.mono q22f (fun c k q => by exact nw_kCr q))) (e_fr.mono q27f (fun c k q => by exact nw_kDr q))) (e_fr.mono q32f (fun c k q => by exact nw_kF72 q))), q32T, ow30, A5, F5, P5, C5, D5, q32x⟩
      · replace h8 : (y1 : Int) < 4 := Int.not_le.mp (show ¬ ((y1 : Int) ≥ 4) from h8)
        refine e_Ok.ps1 (x := (1, 0)) (q := 8) 1 rfl ?_
        refine e_Ok.getr (z := 9) rfl (el_o rfl) rfl rfl ((j3 0 2 no_d3_0).trans (e_Has.eq hT (kt_o rfl))) ⟨by decide, by decide⟩ ?_
        refine e_Ok.ps1 (x := (0, y1)) (q := 12) 1 rfl ?_
        refine e_Ok.aald (z := 17 * y1 + 86) rfl (el_o rfl) rfl (by omega) ((j3 9 y1 no_d3_5).trans (Eq.trans (e_Has.eq hT (k9 (by omega))) (by omega))) (by omega) ?_
        have hK := Kc.of (j3.mono (fun c k g => Or.inl g)) hT j4 j5
        refine e_Ok.callV rfl (e_dq hd rfl) rfl (lA0 (a := y1) (by omega) (by omega)) rfl rfl (c_3_r (e_dq hd rfl) (a := y1) hT j4 hK (by omega) (hX y1 (by omega) (by omega)).1 (hX y1 (by omega) (by omega)).2) (fun r34 w35 h36 => ?_)
        obtain ⟨⟨⟨rfl, q37f, q37T, q37x⟩, -, q37r⟩, q37o⟩ := h36
        have ow35 : ∀ c k, e_out elay c k → w35 c k = w c k := fun c k g => (q37o c k g).trans (j5 c k g)
        refine e_Ok.nrm (q := 16) (st' := []) rfl rfl ?_
        refine e_Ok.inc (z := y1 + 1) rfl rfl (by first | with_reducible rfl | omega) (by omega) ?_
        show e_Ok 20 elay kcode eI (d + 1) 252 (19, [(1, (0, y1 + 1)), (0, (1, 0))], [], w35) _
        refine e_Ok.ps0 (q := 2) 1 rfl ?_
        refine e_Ok.sub kAlk (e_sub_of rfl ?_) (ih2 (y1 + 1) w35 ⟨(show e_fr kNw w w35 from e_fr.trans j3 (e_fr.mono q37f (fun c k q => by exact nw_kAr (by omega) q))), q37T, ow35, (fun i g1 g2 => by by_cases e : i = y1; (rw [e]; exact ⟨q37x.1, fun c k g3 g4 => q37r c k g4, q37x.2⟩); (exact (j6 i g1 (by omega)).fr j4 q37T (fun c k g => nw_kAr (by omega) g) (by omega) q37f (fun c k g3 g4 g5 => by have g6 := g5.rg; omega))), by omega⟩ (by omega))
        exact ⟨rfl, rfl, trivial⟩
  refine e_Ok.sub kAlk (e_sub_of rfl ?_) (hL1 (4 + 1 : Int).toNat 0 w ⟨(e_fr.refl w), hT, (fun _ _ _ => rfl), (fun i g1 g2 => by omega), by omega⟩ (by omega))
  exact ⟨rfl, rfl, trivial⟩
end
end
-- part d4
section
noncomputable section
/-! a new cell; what rewind makes is the same each time -/
section D4
variable {w u v v' : eW} {OP OD CL : Int → Int → Int}
/-- what was told is in order -/
def cfI (w : eW) (OP OD CL : Int → Int → Int) : Prop := (∀ a, 0 ≤ a → a ≤ 3 → kn1 (w (17 * a + 88) 0) ∧ kn1 (w (17 * a + 89) 0)) ∧ (∀ a j, 0 ≤ a → a ≤ 3 → 0 ≤ j → j < w (17 * a + 86) 8 → jC w (17 * a + j + 97)) ∧ kCo w OP OD CL ∧ fFt w ∧ pTo w ∧ ∀ p, 0 ≤ p → p ≤ 63 → ∃ k, (0 ≤ k ∧ k ≤ 63) ∧ w 18 k = p
theorem dC_Kc {c k : Int} (g : dC c k) : Kc c k := Kc_0 (by
  unfold dC at g
  rcases g with g | g | g | g | g | g | g | g | g <;> exact ⟨by omega, by unfold kNh kNw; omega⟩)
theorem cfI.eq (h : ∀ c k, Kc c k → v c k = w c k) (hT : e_Has kTy w) (q : cfI w OP OD CL) : cfI v OP OD CL := by
  have hm := e_Has.get hT (c := 19) (k := 1) (lo := 0) (hi := 32) (kt_o rfl) (by decide)
  obtain ⟨q1, q2, q3, q4, q5, q6⟩ := q
  refine ⟨fun a g1 g2 => ?_, fun a j g1 g2 g3 g4 => ?_, q3.eq (fun c k g => h c k (dC_Kc g)), q4.eq h (by omega), q5.eq (fun k => ⟨h _ _ (Kc_0 ⟨by omega, by unfold kNh kNw; omega⟩), h _ _ (Kc_0 ⟨by omega, by unfold kNh kNw; omega⟩)⟩), fun p g1 g2 => ?_⟩
  · rw [h _ _ (Kc_0 ⟨by omega, by unfold kNh kNw; omega⟩), h _ _ (Kc_0 ⟨by omega, by unfold kNh kNw; omega⟩)]
    exact q1 a g1 g2
  · have hn := kn_joints hT ⟨g1, g2⟩
    rw [h (17 * a + 86) 8 (Kc_0 ⟨by omega, by unfold kNh kNw; omega⟩)] at g4
    have z := q2 a j g1 g2 g3 g4
    unfold jC at z ⊢
    rw [h _ 1 (Kc_0 ⟨by omega, by unfold kNh kNw; omega⟩), h _ 2 (Kc_0 ⟨by omega, by unfold kNh kNw; omega⟩), h _ 5 (Kc_0 ⟨by omega, by unfold kNh kNw; omega⟩), h _ 6 (Kc_0 ⟨by omega, by unfold kNh kNw; omega⟩)]
    exact z
  · obtain ⟨k, hk, e⟩ := q6 p g1 g2
    exact ⟨k, hk, by rw [h 18 k (Kc_0 ⟨by omega, by unfold kNh kNw; omega⟩)]; exact e⟩
/-- values that fit the wires -/
theorem rc0_congr {V V' : Int → Int} {p : Int} (h : 0 ≤ w 15 p → V' (w 15 p) = V (w 15 p)) : rc0 w V' p = rc0 w V p := by
  unfold rc0
  by_cases g : w 15 p < 0
  · rw [if_pos g, if_pos g]
  · rw [if_neg g, if_neg g, h (by omega)]
theorem vFx.part (hp : pTo w) : ∀ n : Nat, n ≤ 64 → ∃ V : Int → Int, ∀ k, 0 ≤ k → k < (n : Int) → V (w 18 k) = rc0 w V (w 18 k) := by
  intro n
  induction n with
  | zero => intro _; exact ⟨fun _ => 0, fun k g1 g2 => by omega⟩
  | succ n ih =>
    intro hn
    obtain ⟨V, hV⟩ := ih (by omega)
    by_cases hj : ∃ j : Int, (0 ≤ j ∧ j < (n : Int)) ∧ w 18 j = w 18 (n : Int)
    · obtain ⟨j, hj1, hj2⟩ := hj
      refine ⟨V, fun k g1 g2 => ?_⟩
      by_cases e : k = (n : Int)
      · rw [e, ← hj2]; exact hV j hj1.1 hj1.2
      · exact hV k g1 (by omega)
    · have ne : ∀ j : Int, 0 ≤ j → j < (n : Int) → w 18 j ≠ w 18 (n : Int) := fun j g1 g2 g3 => hj ⟨j, ⟨g1, g2⟩, g3⟩
      refine ⟨fun x => if x = w 18 (n : Int) then rc0 w V (w 18 (n : Int)) else V x, fun k g1 g2 => ?_⟩
      have src : ∀ k : Int, 0 ≤ k → k ≤ (n : Int) → 0 ≤ w 15 (w 18 k) → w 15 (w 18 k) ≠ w 18 (n : Int) := fun k g1 g2 g3 => by
        obtain ⟨j, hj1, hj2⟩ := hp k g1 (by omega) g3
        rw [← hj2]
        exact ne j hj1.1 (by omega)
      have cg : rc0 w (fun x => if x = w 18 (n : Int) then rc0 w V (w 18 (n : Int)) else V x) (w 18 k) = rc0 w V (w 18 k) := rc0_congr (fun g3 => by
        show (if _ then _ else _) = _
        rw [if_neg (src k g1 (by omega) g3)])
      rw [cg]
      show (if w 18 k = w 18 (n : Int) then _ else _) = _
      by_cases e : k = (n : Int)
      · rw [e, if_pos rfl]
      · rw [if_neg (ne k g1 (by omega))]; exact hV k g1 (by omega)
theorem vFx.ex (hp : pTo w) (hc : ∀ p, 0 ≤ p → p ≤ 63 → ∃ k, (0 ≤ k ∧ k ≤ 63) ∧ w 18 k = p) : ∃ V, vFx w V := by
  obtain ⟨V, hV⟩ := vFx.part hp 64 (by decide)
  refine ⟨V, fun p g1 g2 => ?_⟩
  obtain ⟨k, hk, e⟩ := hc p g1 g2
  rw [← e]
  exact hV k hk.1 (by omega)
/-- what rewind makes of it is known -/
def Kw1 (w : eW) (c k : Int) : Prop := Kc c k ∨ (∃ a, (0 ≤ a ∧ a ≤ 3) ∧ kAr a c k ∧ e_okz (PA w a c k) = true) ∨ (kFl c k ∧ e_okz (PF w c k) = true) ∨ ((0 ≤ k ∧ k < 64) ∧ (c = 11 ∨ c = 12 ∨ c = 13 ∨ c = 16)) ∨ (c = 74 ∧ (k = 0 ∨ k = 1 ∨ (3 ≤ k ∧ k ≤ 7))) ∨ ((78 ≤ c ∧ c ≤ 81) ∧ 0 ≤ k ∧ k < 8) ∨ (c = 83 ∧ 0 ≤ k ∧ k < 8) ∨ (c = 8 ∧ k = 9) ∨ (c = 272 ∧ 0 ≤ k ∧ k < 6) ∨ (∃ t, (0 ≤ t ∧ t ≤ 15) ∧ c = 6 * t + 154 ∧ ((1 ≤ k ∧ k ≤ 7) ∨ k = 10 ∨ k = 11 ∨ k = 14 ∨ k = 15))
theorem tR0.at {t k : Int} (h : tR0 v t) (h' : tR0 v' t) (hk : (1 ≤ k ∧ k ≤ 7) ∨ k = 10 ∨ k = 11 ∨ k = 14 ∨ k = 15) : v' (6 * t + 154) k = v (6 * t + 154) k := by
  obtain ⟨⟨a1, a2, a3, a4, a5, a6⟩, a7, a8, a9, a10, a11⟩ := h
  obtain ⟨⟨b1, b2, b3, b4, b5, b6⟩, b7, b8, b9, b10, b11⟩ := h'
  obtain rfl | rfl | rfl | rfl | rfl | rfl | rfl | rfl | rfl | rfl | rfl : k = 1 ∨ k = 2 ∨ k = 3 ∨ k = 4 ∨ k = 5 ∨ k = 6 ∨ k = 7 ∨ k = 10 ∨ k = 11 ∨ k = 14 ∨ k = 15 := by omega
  all_goals omega
theorem rw0.same (hu : ∀ c k, Kc c k → u c k = w c k) (hv : ∀ c k, Kc c k → v c k = w c k) (hv' : ∀ c k, Kc c k → v' c k = u c k) (hc : cfI w OP OD CL) (h : rw0 w v) (h' : rw0 u v') : ∀ c k, Kw1 w c k → v' c k = v c k := by
  have eA : ∀ a, PA u a = PA w a := fun a => by unfold PA; rw [e_pzK hu]
  have eF : PF u = PF w := by unfold PF; rw [e_pzK hu]
  have e8 : ∀ c k, (c = 15 ∨ c = 17 ∨ c = 18) → u c k = w c k := fun c k g => hu c k (Kc_0 ⟨by omega, by unfold kNh kNw; omega⟩)
  obtain ⟨a1, f1, p1, c1, ⟨d1, d2, d3⟩, i1⟩ := h
  obtain ⟨a2, f2, p2, c2, ⟨d4, d5, d6⟩, i2⟩ := h'
  intro c k q
  rcases q with q | ⟨a, ga, q1, q2⟩ | ⟨q1, q2⟩ | ⟨g, rfl | rfl | rfl | rfl⟩ | ⟨rfl, g⟩ | ⟨g, g2⟩ | ⟨rfl, g⟩ | ⟨rfl, rfl⟩ | ⟨rfl, g⟩ | ⟨t, gt, rfl, g⟩
  · rw [hv' c k q, hu c k q, hv c k q]
  · have z1 := (a1 a ga.1 ga.2).2.1 c k q1 q2
    have z2 := (a2 a ga.1 ga.2).2.1 c k q1 (by rw [eA]; exact q2)
    rw [z1, z2, eA]
  · have z1 := f1.2 c k q1 q2
    have z2 := f2.2 c k q1 (by rw [eF]; exact q2)
    rw [z1, z2, eF]
  · rw [p1.1.1 k g.1 g.2, p2.1.1 k g.1 g.2]
  · obtain ⟨V, hV⟩ := vFx.ex hc.2.2.2.2.1 hc.2.2.2.2.2
    obtain ⟨j, hj, e⟩ := hc.2.2.2.2.2 k g.1 (by omega)
    have z1 := p1.2 V hV hc.2.2.2.2.1 j hj.1 (by omega)
    have z2 := p2.2 V (hV.eq (fun k => ⟨e8 _ _ (by omega), e8 _ _ (by omega)⟩)) (hc.2.2.2.2.1.eq (fun k => ⟨e8 _ _ (by omega), e8 _ _ (by omega)⟩)) j hj.1 (by omega)
    rw [e8 18 j (by omega)] at z2
    rw [← e, z1, z2]
  · rw [p1.1.2.2 k g.1 g.2, p2.1.2.2 k g.1 g.2]
  · rw [p1.1.2.1 k g.1 g.2, p2.1.2.1 k g.1 g.2]
  · obtain ⟨b1, b2, b3, b4, b5, b6, b7⟩ := c1.1
    obtain ⟨e1, e2, e3, e4, e5, e6, e7⟩ := c2.1
    obtain rfl | rfl | rfl | rfl | rfl | rfl | rfl : k = 0 ∨ k = 1 ∨ k = 3 ∨ k = 4 ∨ k = 5 ∨ k = 6 ∨ k = 7 := by omega
    all_goals omega
  · have z1 := c1.2 k g2.1 g2.2
    have z2 := c2.2 k g2.1 g2.2
    obtain rfl | rfl | rfl | rfl : c = 78 ∨ c = 79 ∨ c = 80 ∨ c = 81 := by omega
    all_goals omega
  · rw [d2 k g.1 g.2, d5 k g.1 g.2]
  · rw [d3, d6]
  · rw [i1 k g.1 g.2, i2 k g.1 g.2]
  · exact (d1 t gt.1 gt.2).at (d4 t gt.1 gt.2) g
theorem inn {c k : Int} {kd cl n : Nat} (hl : elay[c.toNat]? = some (kd, cl, n)) (h0 : 0 ≤ c) (h1 : c ≠ 280) (ho : ¬ e_out elay c k) : 0 ≤ k ∧ k < n := by
  apply Classical.byContradiction
  intro g
  refine ho ⟨h0, h1, fun kd' cl' n' e => ?_⟩
  rw [hl] at e
  have e2 : n = n' := congrArg (fun q => q.2.2) (Option.some.inj e)
  omega
theorem okz_of {x z : Int} (h : x = z) (hz : e_okz z = true) : e_okz x = true := by rw [h]; exact hz
/-- every typed place is known -/
theorem typ_K1 (hP : ∀ a, 0 ≤ a → a ≤ 3 → aR0 (PA w a) a) {c k : Int} (hl : (kTy c k).1 ≤ (kTy c k).2) : Kw1 w c k := by
  have hrg := kTy_rg hl
  by_cases hn : kNh c k
  case neg => exact Or.inl (Kc_0 ⟨hrg, hn⟩)
  by_cases hq : (kTy c k).1 = (kTy c k).2
  case pos => exact Or.inl ⟨hrg, Or.inr (Or.inl hq)⟩
  by_cases ho : e_out elay c k
  case pos => exact Or.inl ⟨hrg, Or.inr (Or.inr ho)⟩
  clear hrg
  have bad : ∀ {p : Int × Int}, kTy c k = p → ¬ p.1 ≤ p.2 → Kw1 w c k := fun e g => absurd (e ▸ hl) g
  rcases hn with hn | rfl | ⟨rfl, hn⟩ | hn | rfl | hn
  · unfold kNw at hn
    rcases hn with hn | rfl | hn | hn | hn | hn | rfl | hn | hn | hn | hn | rfl | rfl | hn | hn | hn | hn
    · obtain ⟨rfl, hn⟩ := hn
      have g := inn (c := 74) (k := k) (kd := 0) (cl := 2) (n := 15) rfl (by decide) (by decide) ho
      obtain g2 | g2 : (k = 0 ∨ k = 1 ∨ (3 ≤ k ∧ k ≤ 7)) ∨ 8 ≤ k := by omega
      · exact Or.inr (Or.inr (Or.inr (Or.inr (Or.inl ⟨rfl, g2⟩))))
      · exfalso
        obtain rfl | rfl | rfl | rfl | rfl | rfl | rfl : k = 8 ∨ k = 9 ∨ k = 10 ∨ k = 11 ∨ k = 12 ∨ k = 13 ∨ k = 14 := by omega
        all_goals exact hq rfl
    · exact bad (p := (1, 0)) rfl (by decide)
    · have g : 0 ≤ k ∧ k < 8 := by
        obtain rfl | rfl | rfl | rfl : c = 78 ∨ c = 79 ∨ c = 80 ∨ c = 81 := by omega
        · exact inn (c := 78) (k := k) (kd := 3) (cl := 0) (n := 8) rfl (by decide) (by decide) ho
        · exact inn (c := 79) (k := k) (kd := 3) (cl := 0) (n := 8) rfl (by decide) (by decide) ho
        · exact inn (c := 80) (k := k) (kd := 3) (cl := 0) (n := 8) rfl (by decide) (by decide) ho
        · exact inn (c := 81) (k := k) (kd := 1) (cl := 0) (n := 8) rfl (by decide) (by decide) ho
      exact Or.inr (Or.inr (Or.inr (Or.inr (Or.inr (Or.inl ⟨hn, g⟩)))))
    · obtain rfl | rfl | rfl : c = 83 ∨ c = 84 ∨ c = 85 := by omega
      · exact Or.inr (Or.inr (Or.inr (Or.inr (Or.inr (Or.inr (Or.inl ⟨rfl, inn (c := 83) (k := k) (kd := 1) (cl := 0) (n := 8) rfl (by decide) (by decide) ho⟩))))))
      · exact bad (p := (1, 0)) rfl (by decide)
      · exact bad (p := (1, 0)) rfl (by decide)
    · obtain ⟨rfl, hn⟩ := hn
      have g := inn (c := 8) (k := k) (kd := 0) (cl := 3) (n := 12) rfl (by decide) (by decide) ho
      obtain rfl | rfl | rfl | rfl : k = 8 ∨ k = 9 ∨ k = 10 ∨ k = 11 := by omega
      · exact bad (p := (1, 0)) rfl (by decide)
      · exact Or.inr (Or.inr (Or.inr (Or.inr (Or.inr (Or.inr (Or.inr (Or.inl ⟨rfl, rfl⟩)))))))
      · exact bad (p := (1, 0)) rfl (by decide)
      · exact bad (p := (1, 0)) rfl (by decide)
    · obtain rfl | rfl | rfl | rfl : c = 11 ∨ c = 12 ∨ c = 13 ∨ c = 14 := by omega
      · exact Or.inr (Or.inr (Or.inr (Or.inl ⟨inn (c := 11) (k := k) (kd := 1) (cl := 0) (n := 64) rfl (by decide) (by decide) ho, by omega⟩)))
      · exact Or.inr (Or.inr (Or.inr (Or.inl ⟨inn (c := 12) (k := k) (kd := 1) (cl := 0) (n := 64) rfl (by decide) (by decide) ho, by omega⟩)))
      · exact Or.inr (Or.inr (Or.inr (Or.inl ⟨inn (c := 13) (k := k) (kd := 1) (cl := 0) (n := 64) rfl (by decide) (by decide) ho, by omega⟩)))
      · exact bad (p := (1, 0)) rfl (by decide)
    · exact Or.inr (Or.inr (Or.inr (Or.inl ⟨inn (c := 16) (k := k) (kd := 3) (cl := 0) (n := 64) rfl (by decide) (by decide) ho, by omega⟩)))
    · obtain rfl | rfl | rfl | rfl | rfl | rfl | rfl : c = 31 ∨ c = 32 ∨ c = 33 ∨ c = 34 ∨ c = 35 ∨ c = 36 ∨ c = 37 := by omega
      all_goals exact bad (p := (1, 0)) rfl (by decide)
    · obtain rfl | rfl : c = 39 ∨ c = 40 := by omega
      all_goals exact bad (p := (1, 0)) rfl (by decide)
    · obtain ⟨t, r, hr, rfl⟩ : ∃ t r : Int, ((0 ≤ t ∧ t ≤ 15) ∧ 0 ≤ r ∧ r ≤ 5) ∧ c = 6 * t + 154 + r := ⟨(c - 154) / 6, (c - 154) % 6, by omega, by omega⟩
      obtain rfl | rfl | rfl | rfl | rfl | rfl : r = 0 ∨ r = 1 ∨ r = 2 ∨ r = 3 ∨ r = 4 ∨ r = 5 := by omega
      · have e0 : 6 * t + 154 + 0 = 6 * t + 154 := by omega
        rw [e0] at hl hq ho bad ⊢
        have g := inn (lT0 (t := t) rfl hr.1) (by omega) (by omega) ho
        obtain g2 | g2 | g2 | g2 | g2 | g2 | g2 | g2 : ((1 ≤ k ∧ k ≤ 7) ∨ k = 10 ∨ k = 11 ∨ k = 14 ∨ k = 15) ∨ k = 0 ∨ k = 8 ∨ k = 9 ∨ k = 12 ∨ k = 13 ∨ (k = 16 ∨ k = 17 ∨ k = 18) ∨ (k = 19 ∨ k = 20) := by omega
        · exact Or.inr (Or.inr (Or.inr (Or.inr (Or.inr (Or.inr (Or.inr (Or.inr (Or.inr ⟨t, hr.1, rfl, g2⟩))))))))
        · subst g2; exact absurd (by rw [kT_0 (t := t) rfl hr.1]) hq
        · subst g2; exact bad (kT_8 (t := t) rfl hr.1) (by decide)
        · subst g2; exact bad (kT_9 (t := t) rfl hr.1) (by decide)
        · subst g2; exact bad (kT_12 (t := t) rfl hr.1) (by decide)
        · subst g2; exact bad (kT_13 (t := t) rfl hr.1) (by decide)
        · rcases g2 with rfl | rfl | rfl
          · exact absurd (by rw [kT_16 (t := t) rfl hr.1]) hq
          · exact absurd (by rw [kT_17 (t := t) rfl hr.1]) hq
          · exact absurd (by rw [kT_18 (t := t) rfl hr.1]) hq
        · rcases g2 with rfl | rfl
          · exact absurd (by rw [kT_19 (t := t) rfl hr.1]) hq
          · exact absurd (by rw [kT_20 (t := t) rfl hr.1]) hq
      · exact bad (kT155 (t := t) k (by omega) hr.1) (by decide)
      · exact bad (kT156 (t := t) k (by omega) hr.1) (by decide)
      · exact bad (kT157 (t := t) k (by omega) hr.1) (by decide)
      · exact bad (kT158 (t := t) k (by omega) hr.1) (by decide)
      · exact bad (kT159 (t := t) k (by omega) hr.1) (by decide)
    · obtain ⟨rfl, hn⟩ := hn
      have g := inn (c := 250) (k := k) (kd := 0) (cl := 9) (n := 17) rfl (by decide) (by decide) ho
      obtain rfl | rfl | rfl | rfl : k = 13 ∨ k = 14 ∨ k = 15 ∨ k = 16 := by omega
      all_goals exact bad (p := (1, 0)) rfl (by decide)
    · exact bad (p := (1, 0)) rfl (by decide)
    · exact Or.inr (Or.inr (Or.inr (Or.inr (Or.inr (Or.inr (Or.inr (Or.inr (Or.inl ⟨rfl, inn (c := 272) (k := k) (kd := 1) (cl := 0) (n := 6) rfl (by decide) (by decide) ho⟩))))))))
    · obtain ⟨a, ga, rfl⟩ : ∃ a : Int, (0 ≤ a ∧ a ≤ 3) ∧ c = 17 * a + 86 := ⟨(c - 86) / 17, by omega, by omega⟩
      have g := inn (lA0 (a := a) rfl ga) (by omega) (by omega) ho
      obtain ⟨h11, h13, h14, h15, h16, h17, h18, h19⟩ := (hP a ga.1 ga.2).1
      obtain rfl | rfl | rfl | rfl | rfl | rfl | rfl | rfl | rfl : k = 11 ∨ k = 12 ∨ k = 13 ∨ k = 14 ∨ k = 15 ∨ k = 16 ∨ k = 17 ∨ k = 18 ∨ k = 19 := by omega
      · exact Or.inr (Or.inl ⟨a, ga, Or.inl ⟨rfl, by omega⟩, okz_of h11 rfl⟩)
      · exact bad (kA_12 (a := a) rfl ga) (by decide)
      · exact Or.inr (Or.inl ⟨a, ga, Or.inl ⟨rfl, by omega⟩, okz_of h13 rfl⟩)
      · exact Or.inr (Or.inl ⟨a, ga, Or.inl ⟨rfl, by omega⟩, okz_of h14 rfl⟩)
      · exact Or.inr (Or.inl ⟨a, ga, Or.inl ⟨rfl, by omega⟩, okz_of h15 rfl⟩)
      · exact Or.inr (Or.inl ⟨a, ga, Or.inl ⟨rfl, by omega⟩, okz_of h16 rfl⟩)
      · exact Or.inr (Or.inl ⟨a, ga, Or.inl ⟨rfl, by omega⟩, okz_of h17 rfl⟩)
      · exact Or.inr (Or.inl ⟨a, ga, Or.inl ⟨rfl, by omega⟩, okz_of h18 rfl⟩)
      · exact Or.inr (Or.inl ⟨a, ga, Or.inl ⟨rfl, by omega⟩, okz_of h19 rfl⟩)
    · obtain ⟨a, ga, hc⟩ : ∃ a : Int, (0 ≤ a ∧ a ≤ 3) ∧ (c = 17 * a + 88 ∨ c = 17 * a + 89 ∨ c = 17 * a + 90 ∨ c = 17 * a + 91) := ⟨(c - 86) / 17, by omega, by omega⟩
      rcases hc with hc | hc | hc | hc
      · exact bad (kA88 (a := a) k hc ga) (by decide)
      · exact bad (kA89 (a := a) k hc ga) (by decide)
      · exact bad (kA90 (a := a) k hc ga) (by decide)
      · exact bad (kA91 (a := a) k hc ga) (by decide)
    · obtain ⟨a, ga, rfl⟩ : ∃ a : Int, (0 ≤ a ∧ a ≤ 3) ∧ c = 17 * a + 93 := ⟨(c - 86) / 17, by omega, by omega⟩
      have g := inn (lA7 (a := a) rfl ga) (by omega) (by omega) ho
      exact Or.inr (Or.inl ⟨a, ga, Or.inr (Or.inr (Or.inr (Or.inr (Or.inr rfl)))), okz_of ((hP a ga.1 ga.2).2.2.1 k g.1 g.2) rfl⟩)
    · obtain ⟨a, j, ga, rfl⟩ : ∃ a j : Int, ((0 ≤ a ∧ a ≤ 3) ∧ 0 ≤ j ∧ j ≤ 5) ∧ c = 17 * a + j + 97 := ⟨(c - 86) / 17, (c - 86) % 17 - 11, by omega, by omega⟩
      have g := inn (lJ (a := a) (j := j) rfl ga.1 ga.2) (by omega) (by omega) ho
      obtain ⟨h7, h8, h9⟩ := (hP a ga.1.1 ga.1.2).2.1 j ga.2.1 (by omega)
      obtain rfl | rfl | rfl | rfl | rfl : k = 7 ∨ k = 8 ∨ k = 9 ∨ k = 10 ∨ k = 11 := by omega
      · exact Or.inr (Or.inl ⟨a, ga.1, Or.inr (Or.inl (by omega)), okz_of h7 rfl⟩)
      · exact Or.inr (Or.inl ⟨a, ga.1, Or.inr (Or.inl (by omega)), okz_of h8 rfl⟩)
      · exact Or.inr (Or.inl ⟨a, ga.1, Or.inr (Or.inl (by omega)), okz_of h9 rfl⟩)
      · exact bad (kJ_10 (a := a) (j := j) rfl ga.1 ga.2) (by decide)
      · exact bad (kJ_11 (a := a) (j := j) rfl ga.1 ga.2) (by decide)
  · exact bad (p := (1, 0)) rfl (by decide)
  · have g := inn (c := 0) (k := k) (kd := 0) (cl := 11) (n := 15) rfl (by decide) (by decide) ho
    obtain rfl | rfl | rfl : k = 12 ∨ k = 13 ∨ k = 14 := by omega
    all_goals exact bad (p := (1, 0)) rfl (by decide)
  · obtain rfl | rfl | rfl | rfl | rfl | rfl | rfl | rfl | rfl | rfl : c = 262 ∨ c = 263 ∨ c = 264 ∨ c = 265 ∨ c = 266 ∨ c = 267 ∨ c = 268 ∨ c = 269 ∨ c = 270 ∨ c = 271 := by omega
    · have g := inn (c := 262) (k := k) (kd := 0) (cl := 6) (n := 13) rfl (by decide) (by decide) ho
      obtain rfl | rfl | rfl | rfl | rfl | rfl | rfl | rfl | rfl | rfl | rfl | rfl | rfl : k = 0 ∨ k = 1 ∨ k = 2 ∨ k = 3 ∨ k = 4 ∨ k = 5 ∨ k = 6 ∨ k = 7 ∨ k = 8 ∨ k = 9 ∨ k = 10 ∨ k = 11 ∨ k = 12 := by omega
      all_goals first | exact bad (p := (1, 0)) rfl (by decide) | exact absurd rfl hq
    · exact bad (p := (1, 0)) rfl (by decide)
    · exact bad (p := (1, 0)) rfl (by decide)
    · exact bad (p := (1, 0)) rfl (by decide)
    · exact bad (p := (1, 0)) rfl (by decide)
    · exact bad (p := (1, 0)) rfl (by decide)
    · exact bad (p := (1, 0)) rfl (by decide)
    · exact bad (p := (1, 0)) rfl (by decide)
    · exact bad (p := (1, 0)) rfl (by decide)
    · exact bad (p := (1, 0)) rfl (by decide)
  · have g := inn (c := 1) (k := k) (kd := 0) (cl := 8) (n := 17) rfl (by decide) (by decide) ho
    obtain rfl | rfl | rfl | rfl | rfl | rfl | rfl | rfl | rfl | rfl | rfl | rfl | rfl | rfl | rfl | rfl | rfl : k = 0 ∨ k = 1 ∨ k = 2 ∨ k = 3 ∨ k = 4 ∨ k = 5 ∨ k = 6 ∨ k = 7 ∨ k = 8 ∨ k = 9 ∨ k = 10 ∨ k = 11 ∨ k = 12 ∨ k = 13 ∨ k = 14 ∨ k = 15 ∨ k = 16 := by omega
    all_goals first | exact bad (p := (1, 0)) rfl (by decide) | exact absurd rfl hq
  · obtain rfl | rfl | rfl : c = 5 ∨ c = 6 ∨ c = 7 := by omega
    all_goals exact bad (p := (1, 0)) rfl (by decide)
/-- a new cell keeps all -/
theorem kI.new (hT : e_Has kTy u) (hA : ∀ a, 0 ≤ a → a ≤ 3 → aR0 u a) (hJ : ∀ a j, 0 ≤ a → a ≤ 3 → 0 ≤ j → j < u (17 * a + 86) 8 → jC u (17 * a + j + 97)) (hF : fK u) (h16 : ∀ p, 0 ≤ p → p ≤ 63 → u 16 p = 0) (h74 : u 74 1 = 0) (hC : kCo u OP OD CL) (hK : ∀ t, 0 ≤ t → t ≤ 15 → u (6 * t + 154) 1 = 0) : kI u OP OD CL 0 (-1) := by
  refine ⟨hT, fun a g1 g2 => ?_, hF, fun p g1 g2 g3 => absurd (h16 p g1 g2) g3, fun i g1 g2 g3 => by omega, fun _ a g1 g2 _ => (hA a g1 g2).1.1, hC, fun j g1 g2 => by omega, fun t g1 g2 => ?_⟩
  · have hn := kn_joints hT ⟨g1, g2⟩
    obtain ⟨⟨h11, h13, h14, h15, h16', h17, h18, h19⟩, hj, hv, hk, hk2⟩ := hA a g1 g2
    refine ⟨hk, hk2, ?_, fun g => absurd h11 g, fun g => by omega, fun g => by omega, fun g => by omega, fun g => by omega⟩
    rw [h11]
    intro i g3 g4
    have z := hJ a i g1 g2 g3 g4
    refine ⟨z, ?_⟩
    obtain ⟨z7, z8, z9⟩ := hj i g3 (by omega)
    unfold jC at z
    unfold jM joOk
    rw [z7, z8]
    exact ⟨by omega, fun _ => rfl, fun g => absurd g (by decide), fun g => absurd g (by decide)⟩
  · have z := hK t g1 g2
    exact ⟨⟨fun g => by omega, fun g => by omega, fun g => by omega⟩, fun g => by omega⟩
theorem fK.rf0 {w w' : eW} (e0 : w' 19 0 = w 19 0) (e1 : w' 19 1 = w 19 1) (b0 : 0 ≤ w 19 0 ∧ w 19 0 ≤ 4) (b1 : 0 ≤ w 19 1 ∧ w 19 1 ≤ 32) (hw : e_rf w w') (q : fK w) : fK w' := by
  refine ⟨fun b g1 g2 => ?_, fun p g1 g2 => ?_⟩
  · rw [e0] at g2
    obtain ⟨z1, z2⟩ := q.1 b g1 g2
    have e2 : w' 35 b = w 35 b := (kn1.of z1 (by decide) (by decide)).rf hw
    refine ⟨by rw [e2]; exact z1, fun i g3 g4 => ?_⟩
    rw [e2] at g4
    obtain ⟨z3, z4⟩ := z2 i g3 g4
    have e3 : w' (b + 31) i = w (b + 31) i := (show kn1 _ from by unfold kn1; omega).rf hw
    have e4 : w' 36 (w (b + 31) i) = w 36 (w (b + 31) i) := (show kn1 _ from by unfold kn1; omega).rf hw
    rw [e3, e1, e4]
    exact ⟨z3, z4⟩
  · rw [e1] at g2
    obtain ⟨z1, z2, z3⟩ := q.2 p g1 g2
    have e2 : w' 36 p = w 36 p := (kn1.of z1 (by decide) (by decide)).rf hw
    refine ⟨by rw [e2]; exact z1, fun g => ?_, fun g => ?_⟩
    · rw [e2] at g
      obtain ⟨z4, z5⟩ := z2 g
      rw [e2, e0, z5.rf hw]
      exact ⟨z4, z5⟩
    · rw [e2] at g
      obtain ⟨z4, z5⟩ := z3 g
      rw [z4.rf hw, z5.rf hw]
      exact ⟨z4, z5⟩
/-- what is known behind rewind keeps all -/
theorem no_d4_0 {k : Int} : ¬ kFl 19 k := by unfold kFl; omega
theorem kI.S0 (hT : e_Has kTy w) (hTv : e_Has kTy v) (hc : cfI w OP OD CL) (hv : ∀ c k, Kc c k → v c k = w c k) (h : rw0 w v) : kI (e_pz (Kw1 w) v) OP OD CL 0 (-1) := by
  have hP : ∀ a, 0 ≤ a → a ≤ 3 → aR0 (PA w a) a := fun a g1 g2 => (PA_ok hT ⟨g1, g2⟩ (hc.1 a g1 g2).1 (hc.1 a g1 g2).2).2
  have hf := PF_ok hT hc.2.2.2.1
  have eK : ∀ c k, Kc c k → e_pz (Kw1 w) v c k = w c k := fun c k g => (e_pz_in (Or.inl g)).trans (hv c k g)
  have hT0 : e_Has kTy (e_pz (Kw1 w) v) := fun c k hl => by rw [e_pz_in (typ_K1 hP hl)]; exact hTv c k hl
  have nok : ¬ e_okz 2147483648 = true := by decide
  have pz : ∀ c k, e_okz (e_pz Kc w c k) = true → Kc c k ∧ e_pz Kc w c k = w c k := fun c k g => by
    by_cases q : Kc c k
    · exact ⟨q, e_pz_in q⟩
    · unfold e_pz at g
      rw [if_neg q] at g
      exact absurd g nok
  have rA : ∀ a, 0 ≤ a → a ≤ 3 → e_rf (PA w a) (e_pz (Kw1 w) v) := fun a g1 g2 c k g => by
    by_cases q : kAr a c k
    · rw [e_pz_in (Or.inr (Or.inl ⟨a, ⟨g1, g2⟩, q, g⟩))]
      exact (h.1 a g1 g2).2.1 c k q g
    · have e := (PA_ok hT ⟨g1, g2⟩ (hc.1 a g1 g2).1 (hc.1 a g1 g2).2).1 c k q
      rw [e] at g
      obtain ⟨g3, g4⟩ := pz c k g
      rw [eK c k g3, e, g4]
  have rF : e_rf (PF w) (e_pz (Kw1 w) v) := fun c k g => by
    by_cases q : kFl c k
    · rw [e_pz_in (Or.inr (Or.inr (Or.inl ⟨q, g⟩)))]
      exact h.2.1.2 c k q g
    · have e := hf.1 c k q
      rw [e] at g
      obtain ⟨g3, g4⟩ := pz c k g
      rw [eK c k g3, e, g4]
  have k86 : ∀ a, 0 ≤ a → a ≤ 3 → Kc (17 * a + 86) 8 := fun a g1 g2 => Kc_0 ⟨by omega, by unfold kNh kNw; omega⟩
  have k19 : ∀ k, Kc 19 k := fun k => Kc_0 ⟨by omega, by unfold kNh kNw; omega⟩
  obtain ⟨-, -, p1, c1, ⟨d1, d2, d3⟩, -⟩ := h
  refine kI.new hT0 (fun a g1 g2 => ?_) (fun a j g1 g2 g3 g4 => ?_) ?_ (fun p g1 g2 => ?_) ?_ (hc.2.2.1.eq (fun c k g => eK c k (dC_Kc g))) (fun t g1 g2 => ?_)
  · obtain ⟨⟨h11, h13, h14, h15, h16, h17, h18, h19⟩, hj, hv', hk, hk2⟩ := hP a g1 g2
    have r := rA a g1 g2
    have e8 : e_pz (Kw1 w) v (17 * a + 86) 8 = PA w a (17 * a + 86) 8 := by
      rw [eK _ _ (k86 a g1 g2), (PA_ok hT ⟨g1, g2⟩ (hc.1 a g1 g2).1 (hc.1 a g1 g2).2).1 _ _ (by unfold kAr; omega), e_pz_in (k86 a g1 g2)]
    have e : ∀ c k z, PA w a c k = z → e_okz z = true → e_pz (Kw1 w) v c k = z := fun c k z g3 g4 => by rw [r c k (okz_of g3 g4), g3]
    refine ⟨⟨e _ _ _ h11 rfl, e _ _ _ h13 rfl, e _ _ _ h14 rfl, e _ _ _ h15 rfl, e _ _ _ h16 rfl, e _ _ _ h17 rfl, e _ _ _ h18 rfl, e _ _ _ h19 rfl⟩, fun j g3 g4 => ⟨e _ _ _ (hj j g3 g4).1 rfl, e _ _ _ (hj j g3 g4).2.1 rfl, e _ _ _ (hj j g3 g4).2.2 rfl⟩, fun k g3 g4 => e _ _ _ (hv' k g3 g4) rfl, ?_, ?_⟩
    · unfold aK at hk ⊢
      rw [e8]
      exact ⟨hk.1.rf r, hk.2.rf r⟩
    · unfold oK at hk2 ⊢
      rw [e8]
      exact ⟨hk2.1.rf r, hk2.2.rf r⟩
  · have hn := kn_joints hT ⟨g1, g2⟩
    rw [eK _ _ (k86 a g1 g2)] at g4
    have z := hc.2.1 a j g1 g2 g3 g4
    unfold jC at z ⊢
    rw [eK _ 1 (Kc_0 ⟨by omega, by unfold kNh kNw; omega⟩), eK _ 2 (Kc_0 ⟨by omega, by unfold kNh kNw; omega⟩), eK _ 5 (Kc_0 ⟨by omega, by unfold kNh kNw; omega⟩), eK _ 6 (Kc_0 ⟨by omega, by unfold kNh kNw; omega⟩)]
    exact z
  · have e0 : PF w 19 0 = w 19 0 := (hf.1 19 0 no_d4_0).trans (e_pz_in (k19 0))
    have e1 : PF w 19 1 = w 19 1 := (hf.1 19 1 no_d4_0).trans (e_pz_in (k19 1))
    have b0 := e_Has.get hT (c := 19) (k := 0) (lo := 0) (hi := 4) (kt_o rfl) (by decide)
    have b1 := e_Has.get hT (c := 19) (k := 1) (lo := 0) (hi := 32) (kt_o rfl) (by decide)
    exact fK.rf0 (by rw [eK _ _ (k19 0), e0]) (by rw [eK _ _ (k19 1), e1]) (by omega) (by omega) rF hf.2
  · rw [e_pz_in (Or.inr (Or.inr (Or.inr (Or.inl ⟨by omega, by omega⟩))))]
    exact p1.1.2.1 p g1 (by omega)
  · rw [e_pz_in (Or.inr (Or.inr (Or.inr (Or.inr (Or.inl ⟨rfl, by omega⟩)))))]
    exact c1.1.2.1
  · rw [e_pz_in (Or.inr (Or.inr (Or.inr (Or.inr (Or.inr (Or.inr (Or.inr (Or.inr (Or.inr ⟨t, ⟨g1, g2⟩, rfl, by omega⟩)))))))))]
    exact (d1 t g1 g2).1.1
/-- where the book begins -/
def bas (w s : eW) : Prop := ∀ u, (∀ c k, Kc c k → u c k = w c k) → e_Has kTy u → e_Ok 20 elay kcode eI 26 252 (0, [(0, (1, 0))], [], u) (fun r v => r = [] ∧ e_fr kNw u v ∧ e_Has kTy v ∧ (∀ c k, e_out elay c k → v c k = u c k) ∧ e_rf s v ∧ ∀ a, 0 ≤ a → a ≤ 3 → aP v a)
theorem bas.mk (hT : e_Has kTy w) (hc : cfI w OP OD CL) : ∃ s, bas w s ∧ kI s OP OD CL 0 (-1) ∧ s 74 0 = 0 ∧ s 74 1 = 0 := by
  obtain ⟨n, r, v, h1, -, h2, h3, h4, h5⟩ := c_252 (d := 26) (by decide) hT hc.1 hc.2.2.2.1
  have hv := Kc.of (h2.mono (fun c k g => Or.inl g)) hT h3 h4
  have e74 : ∀ k, (k = 0 ∨ k = 1) → e_pz (Kw1 w) v 74 k = v 74 k := fun k g => e_pz_in (Or.inr (Or.inr (Or.inr (Or.inr (Or.inl ⟨rfl, by omega⟩)))))
  refine ⟨e_pz (Kw1 w) v, fun u hu hTu => ?_, kI.S0 hT h3 hc hv h5, (e74 0 (by omega)).trans h5.2.2.2.1.1.1, (e74 1 (by omega)).trans h5.2.2.2.1.1.2.1⟩
  have hcu := hc.eq hu hT
  refine (c_252 (d := 26) (by decide) hTu hcu.1 hcu.2.2.2.1).imp (fun r' v' q => ?_)
  obtain ⟨q1, q2, q3, q4, q5⟩ := q
  refine ⟨q1, q2, q3, q4, fun c k g => ?_, fun a g1 g2 => (q5.1 a g1 g2).2.2⟩
  have hv' := Kc.of (q2.mono (fun c k g => Or.inl g)) hTu q3 q4
  by_cases q : Kw1 w c k
  · rw [e_pz_in q]
    exact rw0.same hu hv hv' hc h5 q5 c k q
  · unfold e_pz at g
    rw [if_neg q] at g
    exact absurd g (by decide)
end D4
end
end
-- part d5
section
noncomputable section
/-! the book of the class -/
section D5
variable {w w' u v s : eW} {OP OD CL : Int → Int → Int} {S : Int → eW}
/-- what a cell's own run does not read, ways apart -/
def isX0 (c k : Int) : Prop := (c < 0 ∨ c = 1 ∨ (5 ≤ c ∧ c ≤ 7) ∨ (c = 0 ∧ 12 ≤ k) ∨ (262 ≤ c ∧ c ≤ 271) ∨ c = 273 ∨ 275 ≤ c) ∧ (kTy c k).1 ≠ (kTy c k).2
/-- nor the line that was looked at last -/
def isX (c k : Int) : Prop := isX0 c k ∨ (c = 250 ∧ 13 ≤ k ∧ k ≤ 16)
/-- ways that were kept -/
def kYs (n c k : Int) : Prop := (c = 269 ∧ 0 ≤ k ∧ k < 1000 * n) ∨ ((c = 270 ∨ c = 271) ∧ 0 ≤ k ∧ k < n)
theorem kYs.x {n c k : Int} (h : kYs n c k) : isX c k := by
  unfold kYs at h
  refine Or.inl ⟨by omega, ?_⟩
  obtain rfl | rfl | rfl : c = 269 ∨ c = 270 ∨ c = 271 := by omega
  all_goals exact (by decide : (1 : Int) ≠ 0)
def pj (w u : eW) : eW := fun c k => @ite _ (isX c k) (Classical.propDecidable _) (@ite _ (kYs (w 262 0) c k) (Classical.propDecidable _) (w c k) 2147483648) (u c k)
theorem pj_n {c k : Int} (h : ¬ isX c k) : pj w u c k = u c k := if_neg h
theorem pj_y {c k : Int} (h : kYs (w 262 0) c k) : pj w u c k = w c k := by
  unfold pj
  rw [if_pos h.x, if_pos h]
theorem pj_o {c k : Int} (h : isX c k) (h2 : ¬ kYs (w 262 0) c k) : pj w u c k = 2147483648 := by
  unfold pj
  rw [if_pos h, if_neg h2]
/-- v knows what s knows of the cell -/
def e_rx (s v : eW) : Prop := ∀ c k, ¬ isX c k → e_okz (s c k) = true → v c k = s c k
theorem e_rx.pj (h : e_rx s w) : e_rf (pj w s) w := fun c k g => by
  by_cases q : isX c k
  · by_cases y : kYs (w 262 0) c k
    · exact (pj_y y).symm
    · rw [pj_o q y] at g
      exact absurd g (by decide)
  · rw [pj_n q] at g ⊢
    exact h c k q g
theorem e_rx.rf {v' : eW} (h : e_rx s v) (hv : e_rf v v') : e_rx s v' := fun c k q g => by
  have e := h c k q g
  rw [hv c k (by rw [e]; exact g), e]
theorem e_rf.rx (h : e_rf s v) : e_rx s v := fun c k _ g => h c k g
theorem pj.rf (hp : ∀ c k, kYs (w 262 0) c k → kYs (w' 262 0) c k ∧ (e_okz (w c k) = true → w' c k = w c k)) : e_rf (pj w u) (pj w' u) := fun c k g => by
  by_cases q : isX c k
  · by_cases y : kYs (w 262 0) c k
    · rw [pj_y y] at g ⊢
      rw [pj_y (hp c k y).1]
      exact (hp c k y).2 g
    · rw [pj_o q y] at g
      exact absurd g (by decide)
  · rw [pj_n q, pj_n q]
/-- what is written outside the cell's own run is not known there -/
theorem pj.rfo {w1 : eW} (h : e_rf (pj w s) w) (hw : ∀ c k, (¬ isX c k ∨ (269 ≤ c ∧ c ≤ 271)) → w1 c k = w c k) : e_rf (pj w s) w1 := fun c k g => by
  by_cases q : isX c k
  · by_cases y : kYs (w 262 0) c k
    · rw [pj_y y]
      exact hw c k (Or.inr (by unfold kYs at y; omega))
    · rw [pj_o q y] at g
      exact absurd g (by decide)
  · rw [hw c k (Or.inl q)]
    exact h c k g
theorem rwC.eq {x a b c : Int} (h : rwC w x a b c) (e86 : ∀ a k, 0 ≤ a → a ≤ 3 → (k = 7 ∨ k = 8 ∨ k = 11 ∨ k = 17 ∨ k = 19) → w' (17 * a + 86) k = w (17 * a + 86) k) (eJ : ∀ a j k, 0 ≤ a → a ≤ 3 → 0 ≤ j → j < w (17 * a + 86) 8 → (k = 1 ∨ k = 2 ∨ k = 7) → w' (17 * a + j + 97) k = w (17 * a + j + 97) k) (e74 : w' 74 3 = w 74 3) (eC : ∀ a, 0 ≤ a → a ≤ 3 → w' (w (17 * a + 86) 7) 1 = w (w (17 * a + 86) 7) 1) (hy : x = 10 → yD w' (w (17 * a + 86) 8) b ∧ yP w' a (w (17 * a + 86) 8) b 0 (fun j => w' (17 * a + j + 97) 7)) : rwC w' x a b c := by
  obtain ⟨h1, h2, h3, h4, h5, h6, h7, h8, h9, h10⟩ := h
  refine ⟨h1, fun g => ?_, h3, h4, h5, h6, fun g => ?_, h8, fun g => ?_, fun g => ?_⟩
  · have z := h2 g
    rw [e86 a 7 z.1.1 z.1.2 (by omega), eC a z.1.1 z.1.2]
    exact z
  · have z := h7 g
    rw [e86 a 8 z.1.1 z.1.2 (by omega), e86 a 11 z.1.1 z.1.2 (by omega), eJ a b 1 z.1.1 z.1.2 z.2.1.1 z.2.1.2 (by omega), eJ a b 2 z.1.1 z.1.2 z.2.1.1 z.2.1.2 (by omega)]
    exact z
  · have z := h9 g
    rw [e86 a 8 z.1.1 z.1.2 (by omega), e86 a 11 z.1.1 z.1.2 (by omega)]
    exact ⟨z.1, z.2.1, z.2.2.1, hy g⟩
  · have z := h10 g
    rw [e86 a 17 z.1.1 z.1.2 (by omega), e86 a 11 z.1.1 z.1.2 (by omega), e86 a 19 z.1.1 z.1.2 (by omega), e74]
    exact z
theorem rwC.up {h t0 x a b c : Int} (q : kI u OP OD CL h t0) (hw : e_rf u v) (hR : rwC u x a b c) : rwC v x a b c := by
  have hT := q.1
  have hC := q.cd
  have e86 : ∀ a k, 0 ≤ a → a ≤ 3 → (k = 7 ∨ k = 8 ∨ k = 11 ∨ k = 17 ∨ k = 19) → v (17 * a + 86) k = u (17 * a + 86) k := fun a k g1 g2 g3 => by
    by_cases e : k = 7
    · rw [e]; exact (kn_cd (hC a g1 g2)).rf hw
    · exact kq_A hT hw ⟨g1, g2⟩ (by omega)
  have eJ : ∀ a j k, 0 ≤ a → a ≤ 3 → 0 ≤ j → j < u (17 * a + 86) 8 → (k = 1 ∨ k = 2 ∨ k = 7) → v (17 * a + j + 97) k = u (17 * a + j + 97) k := fun a j k g1 g2 g3 g4 g5 => by
    have hn := kn_joints hT ⟨g1, g2⟩
    exact kq_J hT hw ⟨g1, g2⟩ (by omega) (by omega)
  refine hR.eq e86 eJ (hT.kq hw (c := 74) (k := 3) (lo := 0) (hi := 1) rfl (by decide) (by decide) (by decide)) (fun a g1 g2 => hT.kq hw (kD_1 (hC a g1 g2)) (by decide) (by decide) (by decide)) (fun g => ?_)
  have z := hR.2.2.2.2.2.2.2.2.1 g
  have hn := kn_joints hT z.1
  exact ⟨z.2.2.2.1.rf hn.2 hw, z.2.2.2.2.rf hT hw z.1 hn.2 (by decide) z.2.2.2.1 (fun j g1 g2 => eJ a j 7 z.1.1 z.1.2 g1 g2 (by omega))⟩
/-- ticks, one behind another -/
def gd (u : eW) (OP OD CL : Int → Int → Int) : Prop := (∃ h, 0 ≤ h ∧ kI u OP OD CL h (-1)) ∧ u 74 0 < 6000 ∧ u 74 1 ≤ 1900000000
theorem gd.rf (hw : e_rf u v) (h : gd u OP OD CL) : gd v OP OD CL := by
  obtain ⟨⟨hh, q1, q2⟩, q3, q4⟩ := h
  refine ⟨⟨hh, q1, q2.rf hw⟩, ?_, ?_⟩
  · rw [q2.1.kq hw (c := 74) (k := 0) (lo := 0) (hi := 6000) rfl (by decide) (by decide) (by decide)]; exact q3
  · rw [q2.1.kq hw (c := 74) (k := 1) (lo := 0) (hi := 2147483647) rfl (by decide) (by decide) (by decide)]; exact q4
def tk1 (u v : eW) : Prop := e_Ok 20 elay kcode eI 29 259 (0, [(0, (1, 0))], [], u) (fun r v' => r = [] ∧ v' = v)
theorem tk1.rf {u' : eW} (h : tk1 u u') (hw : e_rf u v) : ∃ v', tk1 v v' ∧ e_rf u' v' := by
  obtain ⟨m, r, v', h4, u0, ⟨h5, h6⟩, h7⟩ := e_Ok.more kAlk (nd1 _ _) hw h
  rw [h6] at h7
  exact ⟨v', ⟨m, r, v', h4, h5, rfl⟩, h7⟩
def tkW (OP OD CL : Int → Int → Int) : Nat → eW → eW → Prop
  | 0, u, s => e_rx s u
  | n + 1, u, s => gd u OP OD CL ∧ ∃ u', tk1 u u' ∧ tkW OP OD CL n u' s
theorem tkW.rf : ∀ (n : Nat) {u v s : eW}, e_rf u v → tkW OP OD CL n u s → tkW OP OD CL n v s
  | 0, _, _, _, h, q => e_rx.rf q h
  | n + 1, _, _, _, h, q => by
    obtain ⟨g, u', h1, h2⟩ := q
    obtain ⟨v', h4, h7⟩ := h1.rf h
    exact ⟨g.rf h, v', h4, tkW.rf n h7 h2⟩
def tkE (OP OD CL : Int → Int → Int) : Nat → eW → eW → Prop
  | 0, u, v => v = u
  | n + 1, u, v => gd u OP OD CL ∧ ∃ u', tk1 u u' ∧ tkE OP OD CL n u' v
theorem tkE.snoc : ∀ (n : Nat) {u m v : eW}, tkE OP OD CL n u m → gd m OP OD CL → tk1 m v → tkE OP OD CL (n + 1) u v
  | 0, _, _, v, h, g, q => by
    have e : _ = _ := h
    subst e
    exact ⟨g, v, q, rfl⟩
  | n + 1, _, _, _, h, g, q => by
    obtain ⟨g1, u', h1, h2⟩ := h
    exact ⟨g1, u', h1, tkE.snoc n h2 g q⟩
theorem tkE.tkW : ∀ (n : Nat) {u v s : eW}, tkE OP OD CL n u v → e_rx s v → tkW OP OD CL n u s
  | 0, _, _, _, h, q => by
    have e : _ = _ := h
    subst e
    exact q
  | n + 1, _, _, _, h, q => by
    obtain ⟨g1, u', h1, h2⟩ := h
    exact ⟨g1, u', h1, tkE.tkW n h2 q⟩
def l5 (x a b c : Int) : eL := [(0, (1, 0)), (1, (0, x)), (2, (0, a)), (3, (0, b)), (4, (0, c))]
theorem l5_nd (x a b c : Int) : ((l5 x a b c).map Prod.fst).Nodup := by
  show ([0, 1, 2, 3, 4] : List Nat).Nodup
  decide
/-- a row leads from u to s -/
def rws (u : eW) (OP OD CL : Int → Int → Int) (x a b c : Int) (s : eW) : Prop := (x ≠ 1 ∧ rwC u x a b c ∧ e_Ok 20 elay kcode eI 27 256 (0, l5 x a b c, [], u) (fun r v => (∃ z, r = [(0, z)]) ∧ e_rx s v)) ∨ (x = 1 ∧ (1 ≤ a ∧ a ≤ 1000) ∧ tkW OP OD CL a.toNat u s)
theorem rws.rf {h t0 x a b c : Int} (q : kI u OP OD CL h t0) (hR : rws u OP OD CL x a b c s) (hv : e_rf u v) : rws v OP OD CL x a b c s := by
  rcases hR with ⟨h1, hc, h2⟩ | ⟨h1, hc, h2⟩
  · refine Or.inl ⟨h1, hc.up q hv, (e_Ok.more kAlk (l5_nd x a b c) hv h2).imp (fun r v' q => ?_)⟩
    obtain ⟨u0, q1, q2⟩ := q
    exact ⟨q1.1, q1.2.rf q2⟩
  · exact Or.inr ⟨h1, hc, tkW.rf _ hv h2⟩
/-- the book leads to where the cell stands -/
def kB (w : eW) (OP OD CL : Int → Int → Int) (S : Int → eW) : Prop :=
  ((0 ≤ w 0 12 ∧ w 0 12 ≤ 2000) ∧ 0 ≤ w 262 0 ∧ w 262 0 ≤ 60) ∧ ((∀ c k, Kc c k → kn1 (w c k)) ∧ ∀ a, 0 ≤ a → a ≤ 3 → aP w a) ∧ bas w (S 0) ∧ e_rx (S (w 0 12)) w ∧
  (∀ i, 0 ≤ i → i ≤ w 0 12 → (∃ h, 0 ≤ h ∧ kI (pj w (S i)) OP OD CL h (-1)) ∧ S i 74 1 ≤ 16 * i + 900 * S i 74 0) ∧
  (∀ i, 0 ≤ i → i < w 0 12 → (∀ j, 4 * i ≤ j → j ≤ 4 * i + 3 → kn1 (w 273 j)) ∧ rws (pj w (S i)) OP OD CL (w 273 (4 * i)) (w 273 (4 * i + 1)) (w 273 (4 * i + 2)) (w 273 (4 * i + 3)) (S (i + 1)))
theorem kB.live (h : kB w OP OD CL S) : ∃ hh, 0 ≤ hh ∧ kI w OP OD CL hh (-1) := by
  obtain ⟨hh, q1, q2⟩ := (h.2.2.2.2.1 (w 0 12) h.1.1.1 (Int.le_refl _)).1
  exact ⟨hh, q1, q2.rf h.2.2.2.1.pj⟩
theorem bas.eq (h : bas w s) (hK : ∀ c k, Kc c k → w' c k = w c k) : bas w' s := fun u hu hT => h u (fun c k g => (hu c k g).trans (hK c k g)) hT
theorem kYs.le {n m c k : Int} (h : kYs n c k) (hn : n ≤ m) : kYs m c k := by unfold kYs at h ⊢; omega
theorem kB.keep (h : kB w OP OD CL S) (hK : ∀ c k, Kc c k → w' c k = w c k) (h12 : w' 0 12 = w 0 12) (h262 : w 262 0 ≤ w' 262 0 ∧ w' 262 0 ≤ 60) (hY : ∀ c k, kYs (w 262 0) c k → e_okz (w c k) = true → w' c k = w c k) (hB : ∀ k, 0 ≤ k → k < 4 * w 0 12 → w' 273 k = w 273 k) (hx : e_rx (S (w 0 12)) w') (hA : ∀ a, 0 ≤ a → a ≤ 3 → aP w' a) : kB w' OP OD CL S := by
  obtain ⟨h1, h2, h3, h4, h5, h6⟩ := h
  have hp : ∀ i, e_rf (pj w (S i)) (pj w' (S i)) := fun i => pj.rf (fun c k g => ⟨g.le h262.1, hY c k g⟩)
  refine ⟨by omega, ⟨fun c k g => by rw [hK c k g]; exact h2.1 c k g, hA⟩, h3.eq hK, by rw [h12]; exact hx, fun i g1 g2 => ?_, fun i g1 g2 => ?_⟩
  · obtain ⟨⟨hh, q1, q2⟩, q3⟩ := h5 i g1 (by omega)
    exact ⟨⟨hh, q1, q2.rf (hp i)⟩, q3⟩
  · rw [h12] at g2
    obtain ⟨q1, q2⟩ := h6 i g1 g2
    refine ⟨fun j g3 g4 => by rw [hB j (by omega) (by omega)]; exact q1 j g3 g4, ?_⟩
    rw [hB (4 * i) (by omega) (by omega), hB (4 * i + 1) (by omega) (by omega), hB (4 * i + 2) (by omega) (by omega), hB (4 * i + 3) (by omega) (by omega)]
    obtain ⟨hh, -, q9⟩ := (h5 i g1 (by omega)).1
    exact q2.rf q9 (hp i)
theorem Kq.c {c k : Int} (h : Kq c k) : Kc c k := ⟨h.1, by rcases h.2 with g | g; exact Or.inl g; exact Or.inr (Or.inl g)⟩
theorem aP.rf {a : Int} (hT : e_Has kTy w) (hK : ∀ c k, Kq c k → kn1 (w c k)) (hw : e_rf w w') (hk : aK w a) (ga : 0 ≤ a ∧ a ≤ 3) (h : aP w a) : aP w' a := by
  have hjn := kn_joints hT ga
  have e8 : w' (17 * a + 86) 8 = w (17 * a + 86) 8 := kq_A hT hw ga (by omega)
  intro k g1 g2
  rw [e8] at g2
  unfold aK at hk
  rw [PLC_eq e8 (fun c k q => by
    rcases q with q | ⟨j, hj, rfl, rfl⟩
    · exact (hK c k q).rf hw
    · exact kq_J hT hw ga (by omega) (by omega)), (show kn1 (w (17 * a + 88) k) from hk.1 k (by omega) g2).rf hw, (show kn1 (w (17 * a + 89) k) from hk.2 k (by omega) g2).rf hw]
  exact h k g1 g2
theorem kB.rf (hw : e_rf w w') (h : kB w OP OD CL S) : kB w' OP OD CL S := by
  obtain ⟨hh, -, hI⟩ := h.live
  have hT := hI.1
  have e12 : w' 0 12 = w 0 12 := (kn1.of h.1.1 (by decide) (by decide)).rf hw
  have e62 : w' 262 0 = w 262 0 := (kn1.of h.1.2 (by decide) (by decide)).rf hw
  obtain ⟨h1, h2, h3, h4, h5, h6⟩ := h
  have hK : ∀ c k, Kc c k → w' c k = w c k := fun c k g => (h2.1 c k g).rf hw
  have hp : ∀ i, e_rf (pj w (S i)) (pj w' (S i)) := fun i => pj.rf (fun c k g => ⟨by rw [e62]; exact g, fun q => hw c k q⟩)
  refine ⟨by omega, ⟨fun c k g => by rw [hK c k g]; exact h2.1 c k g, fun a g1 g2 => aP.rf hT (fun c k g => h2.1 c k (Kq.c g)) hw (hI.arm g1 g2).1 ⟨g1, g2⟩ (h2.2 a g1 g2)⟩, h3.eq hK, by rw [e12]; exact h4.rf hw, fun i g1 g2 => ?_, fun i g1 g2 => ?_⟩
  · obtain ⟨⟨hh, q1, q2⟩, q3⟩ := h5 i g1 (by omega)
    exact ⟨⟨hh, q1, q2.rf (hp i)⟩, q3⟩
  · rw [e12] at g2
    obtain ⟨q1, q2⟩ := h6 i g1 g2
    have eb : ∀ j, 4 * i ≤ j → j ≤ 4 * i + 3 → w' 273 j = w 273 j := fun j g3 g4 => (q1 j g3 g4).rf hw
    refine ⟨fun j g3 g4 => by rw [eb j g3 g4]; exact q1 j g3 g4, ?_⟩
    rw [eb (4 * i) (by omega) (by omega), eb (4 * i + 1) (by omega) (by omega), eb (4 * i + 2) (by omega) (by omega), eb (4 * i + 3) (by omega) (by omega)]
    obtain ⟨hh, -, q9⟩ := (h5 i g1 (by omega)).1
    exact q2.rf q9 (hp i)
/-- a row more -/
theorem kB.add {x a b c : Int} (h : kB w OP OD CL S) (hK : ∀ c k, Kc c k → w' c k = w c k) (hn : w 0 12 ≤ 1999) (h12 : w' 0 12 = w 0 12 + 1) (h262 : w' 262 0 = w 262 0) (hY : ∀ c k, 269 ≤ c → c ≤ 271 → w' c k = w c k) (hB : ∀ k, k < 4 * w 0 12 → w' 273 k = w 273 k) (hr : w' 273 (4 * w 0 12) = x ∧ w' 273 (4 * w 0 12 + 1) = a ∧ w' 273 (4 * w 0 12 + 2) = b ∧ w' 273 (4 * w 0 12 + 3) = c) (hk : kn1 x ∧ kn1 a ∧ kn1 b ∧ kn1 c)
    (hI : ∃ hh, 0 ≤ hh ∧ kI v OP OD CL hh (-1)) (hv : ∀ c k, isX0 c k → v c k = pj w (S (w 0 12)) c k) (he : v 74 1 ≤ 16 * (w 0 12 + 1) + 900 * v 74 0) (hx : e_rx v w') (hA : ∀ a, 0 ≤ a → a ≤ 3 → aP w' a) (hR : rws (pj w (S (w 0 12))) OP OD CL x a b c v) : kB w' OP OD CL (fun i => if i ≤ w 0 12 then S i else v) := by
  obtain ⟨h1, h2, h3, h4, h5, h6⟩ := h
  have ep : ∀ s, pj w' s = pj w s := fun s => by
    funext c k
    by_cases q : isX c k
    · by_cases y : kYs (w 262 0) c k
      · rw [pj_y y, pj_y (w := w') (by rw [h262]; exact y)]; exact hY c k (by unfold kYs at y; omega) (by unfold kYs at y; omega)
      · rw [pj_o q y, pj_o (w := w') q (by rw [h262]; exact y)]
    · rw [pj_n q, pj_n q]
  have ev : ∀ c k, ¬ (c = 250 ∧ 13 ≤ k ∧ k ≤ 16) → pj w' v c k = v c k := fun c k g => by
    by_cases q : isX0 c k
    · rw [hv c k q, ← ep]
      unfold pj
      rw [if_pos (show isX c k from Or.inl q), if_pos (show isX c k from Or.inl q)]
    · exact pj_n (fun g2 => by rcases g2 with g2 | g2; exact q g2; exact g g2)
  have eI : ∃ hh, 0 ≤ hh ∧ kI (pj w' v) OP OD CL hh (-1) := by
    obtain ⟨hh, k1, k2⟩ := hI
    refine ⟨hh, k1, k2.hm (fun c k hl => ?_) (fun c k g => ev c k (fun g2 => g (Or.inr (Or.inr (Or.inl g2)))))⟩
    rw [ev c k (fun g2 => by
      obtain ⟨rfl, g3, g4⟩ := g2
      obtain rfl | rfl | rfl | rfl : k = 13 ∨ k = 14 ∨ k = 15 ∨ k = 16 := by omega
      all_goals exact absurd (show (1 : Int) ≤ 0 from hl) (by decide))]
    exact k2.1 c k hl
  refine ⟨by omega, ⟨fun c k g => by rw [hK c k g]; exact h2.1 c k g, hA⟩, ?_, ?_, fun i g1 g2 => ?_, fun i g1 g2 => ?_⟩
  · show bas w' (if (0 : Int) ≤ w 0 12 then S 0 else v)
    rw [if_pos h1.1.1]
    exact h3.eq hK
  · show e_rx (if w' 0 12 ≤ w 0 12 then S (w' 0 12) else v) w'
    rw [if_neg (by omega)]
    exact hx
  · show (∃ hh, 0 ≤ hh ∧ kI (pj w' (if i ≤ w 0 12 then S i else v)) OP OD CL hh (-1)) ∧ (if i ≤ w 0 12 then S i else v) 74 1 ≤ 16 * i + 900 * (if i ≤ w 0 12 then S i else v) 74 0
    by_cases g : i ≤ w 0 12
    · rw [if_pos g, ep]
      exact h5 i g1 g
    · rw [if_neg g, show i = w 0 12 + 1 by omega]
      exact ⟨eI, he⟩
  · show (∀ j, 4 * i ≤ j → j ≤ 4 * i + 3 → kn1 (w' 273 j)) ∧ rws (pj w' (if i ≤ w 0 12 then S i else v)) OP OD CL _ _ _ _ (if i + 1 ≤ w 0 12 then S (i + 1) else v)
    rw [if_pos (by omega), ep]
    by_cases g : i + 1 ≤ w 0 12
    · rw [if_pos g]
      obtain ⟨q1, q2⟩ := h6 i g1 (by omega)
      refine ⟨fun j g3 g4 => by rw [hB j (by omega)]; exact q1 j g3 g4, ?_⟩
      rw [hB (4 * i) (by omega), hB (4 * i + 1) (by omega), hB (4 * i + 2) (by omega), hB (4 * i + 3) (by omega)]
      exact q2
    · rw [if_neg g, show i = w 0 12 by omega, hr.1, hr.2.1, hr.2.2.1, hr.2.2.2]
      refine ⟨fun j g3 g4 => ?_, hR⟩
      obtain rfl | rfl | rfl | rfl : j = 4 * w 0 12 ∨ j = 4 * w 0 12 + 1 ∨ j = 4 * w 0 12 + 2 ∨ j = 4 * w 0 12 + 3 := by omega
      · rw [hr.1]; exact hk.1
      · rw [hr.2.1]; exact hk.2.1
      · rw [hr.2.2.1]; exact hk.2.2.1
      · rw [hr.2.2.2]; exact hk.2.2.2
/-- back to the row n -/
theorem kB.back {n : Int} (h : kB w OP OD CL S) (hn : 0 ≤ n ∧ n ≤ w 0 12) (hK : ∀ c k, Kc c k → w' c k = w c k) (h12 : w' 0 12 = n) (h262 : w' 262 0 = w 262 0) (hY : ∀ c k, 269 ≤ c → c ≤ 271 → w' c k = w c k) (hB : ∀ k, w' 273 k = w 273 k) (hx : e_rx (S n) w') (hA : ∀ a, 0 ≤ a → a ≤ 3 → aP w' a) : kB w' OP OD CL S := by
  obtain ⟨h1, h2, h3, h4, h5, h6⟩ := h
  have ep : ∀ i, e_rf (pj w (S i)) (pj w' (S i)) := fun i => pj.rf (fun c k g => ⟨by rw [h262]; exact g, fun _ => hY c k (by unfold kYs at g; omega) (by unfold kYs at g; omega)⟩)
  refine ⟨by omega, ⟨fun c k g => by rw [hK c k g]; exact h2.1 c k g, hA⟩, h3.eq hK, by rw [h12]; exact hx, fun i g1 g2 => ?_, fun i g1 g2 => ?_⟩
  · obtain ⟨⟨hh, q1, q2⟩, q3⟩ := h5 i g1 (by omega)
    exact ⟨⟨hh, q1, q2.rf (ep i)⟩, q3⟩
  · obtain ⟨q1, q2⟩ := h6 i g1 (by omega)
    refine ⟨fun j g3 g4 => by rw [hB j]; exact q1 j g3 g4, ?_⟩
    rw [hB (4 * i), hB (4 * i + 1), hB (4 * i + 2), hB (4 * i + 3)]
    obtain ⟨hh, -, q9⟩ := (h5 i g1 (by omega)).1
    exact q2.rf q9 (ep i)
/-- a row is carried out, here and from what is known -/
theorem car_r {d : Nat} (hd : 27 ≤ d) {U : eW} {h x a b c : Int} (hw : e_rf U w) (q : kI U OP OD CL h (-1)) (h0 : 0 ≤ h) (he : U 74 1 ≤ 2147000000) (hR : rwC U x a b c) (ga : kn1 a) (gb : kn1 b) (gc : kn1 c) :
    e_Ok 20 elay kcode eI d 256 (0, l5 x a b c, [], w) (fun r v => ((∃ z : Int, r = [(0, z)]) ∧ e_fr kNw w v ∧ e_Has kTy v ∧ ∃ V, e_rf V v ∧ kI V OP OD CL h (-1) ∧ e_fr kNw U V ∧ V 74 0 = U 74 0 ∧ V 74 1 ≤ U 74 1 + 16 ∧ (x ≠ 1 → rws U OP OD CL x a b c V) ∧ aQ w v) ∧ ∀ c k, e_out elay c k → v c k = w c k) := by
  have e741 := q.1.kq hw (c := 74) (k := 1) (lo := 0) (hi := 2147483647) rfl (by decide) (by decide) (by decide)
  have hu := c_256 (d := 27) (by decide) q.1 ga gb gc q h0 he hR
  have hu2 := c_256 (d := d) (by omega) q.1 ga gb gc q h0 he hR
  have hl := c_256 (d := d) (by omega) (q.rf hw).1 ga gb gc (q.rf hw) h0 (by omega) (hR.up q hw)
  refine (k_rel (l5_nd x a b c) hw hu2 hl).imp (fun r v g => ?_)
  obtain ⟨⟨⟨z, g1, g2, ⟨g3, -⟩, -, -, -, g6⟩, -, g4⟩, g5⟩ := g
  obtain ⟨z', p1, p2, ⟨p3, p4⟩, p5, p6, p7, -⟩ := k_phi_ok hu
  refine ⟨⟨⟨z, g1⟩, g3, g2, _, g4, p5, p3, p4, p7, fun hx => Or.inl ⟨hx, hR, ?_⟩, g6⟩, g5⟩
  obtain ⟨n, r0, v0, k1, k2⟩ := hu
  have e := k_phi_eq k1
  refine ⟨n, r0, v0, k1, ⟨z', ?_⟩, ?_⟩
  · have e1 : (k_phi 256 (0, l5 x a b c, [], U)).1 = r0 := congrArg Prod.fst e
    rw [← e1]; exact p1
  · have e2 : (k_phi 256 (0, l5 x a b c, [], U)).2 = v0 := congrArg Prod.snd e
    show e_rx (k_phi 256 (0, l5 x a b c, [], U)).2 v0
    rw [e2]
    exact (e_rf.refl v0).rx
/-- a tick, here and from what is known -/
theorem tick_r {d : Nat} (hd : 29 ≤ d) {U : eW} (hw : e_rf U w) (hg : gd U OP OD CL) :
    e_Ok 20 elay kcode eI d 259 (0, [(0, (1, 0))], [], w) (fun r v => (r = [] ∧ e_fr kNw w v ∧ e_Has kTy v ∧ ∃ V, e_rf V v ∧ tk1 U V ∧ (∃ hh, 0 ≤ hh ∧ kI V OP OD CL hh (-1)) ∧ e_fr kNw U V ∧ V 74 0 = U 74 0 + 1 ∧ V 74 1 ≤ U 74 1 + 900 ∧ aQ w v) ∧ ∀ c k, e_out elay c k → v c k = w c k) := by
  obtain ⟨⟨hh, q1, q⟩, q3, q4⟩ := hg
  have e740 := q.1.kq hw (c := 74) (k := 0) (lo := 0) (hi := 6000) rfl (by decide) (by decide) (by decide)
  have e741 := q.1.kq hw (c := 74) (k := 1) (lo := 0) (hi := 2147483647) rfl (by decide) (by decide) (by decide)
  have hu := c_259 (d := 29) (by decide) q.1 q q1 q3 q4
  have hu2 := c_259 (d := d) hd q.1 q q1 q3 q4
  have hl := c_259 (d := d) hd (q.rf hw).1 (q.rf hw) q1 (by omega) (by omega)
  refine (k_rel (nd1 _ _) hw hu2 hl).imp (fun r v g => ?_)
  obtain ⟨⟨⟨g1, g2, ⟨g3, -⟩, h9, -, -, -, -, g6⟩, -, g4⟩, g5⟩ := g
  obtain ⟨p1, p2, ⟨p3, p4⟩, h', p5, p6, p7, p8, -⟩ := k_phi_ok hu
  refine ⟨⟨g1, g3, g2, _, g4, ?_, ⟨h', by omega, p6⟩, p3, p4, p8, g6⟩, g5⟩
  obtain ⟨n, r0, v0, k1, k2, -⟩ := hu
  have e := k_phi_eq k1
  exact ⟨n, r0, v0, k1, k2, (congrArg Prod.snd e).symm⟩
end D5
end
end
-- part d6
section
noncomputable section
/-! the class: the book is written -/
def kBo (c k : Int) : Prop := c = 273 ∨ (c = 0 ∧ k = 12)
def kNv (c k : Int) : Prop := kNw c k ∨ c = 273 ∨ (c = 0 ∧ k = 12)
section D6
variable {w w1 v V s : eW} {OP OD CL : Int → Int → Int} {S : Int → eW}
def wrX (w w1 : eW) (x a b c : Int) : Prop := w1 0 12 = w 0 12 + 1 ∧ (∀ k, k < 4 * w 0 12 → w1 273 k = w 273 k) ∧ w1 273 (4 * w 0 12) = x ∧ w1 273 (4 * w 0 12 + 1) = a ∧ w1 273 (4 * w 0 12 + 2) = b ∧ w1 273 (4 * w 0 12 + 3) = c
theorem bo_x {c k : Int} (h : kBo c k) : isX c k ∧ ¬ (269 ≤ c ∧ c ≤ 271) := by
  unfold kBo at h
  rcases h with rfl | ⟨rfl, rfl⟩
  · exact ⟨Or.inl ⟨by omega, (by decide : (1 : Int) ≠ 0)⟩, by omega⟩
  · exact ⟨Or.inl ⟨by omega, (by decide : (1 : Int) ≠ 0)⟩, by omega⟩
theorem x_nw {c k : Int} (h : isX0 c k) : ¬ kNw c k := by
  have h1 := h.1
  intro g
  unfold kNw at g
  rcases g with g | g | g | g | g | g | g | g | g | g | g | g | g | g | g | g | g <;> omega
theorem nx74 {k : Int} : ¬ isX 74 k := fun h => by
  rcases h with h | h
  · have h1 := h.1; omega
  · omega
theorem yD.dn {w' : eW} {n m y : Int} (h : ∀ c k, kYs n c k → w' c k = w c k) (hy : 0 ≤ y ∧ y < n) (q : yD w m y) : yD w' m y := by
  obtain ⟨q1, q2, q3⟩ := q
  have e0 : w' 270 y = w 270 y := h _ _ (by unfold kYs; omega)
  have e1 : w' 271 y = w 271 y := h _ _ (by unfold kYs; omega)
  refine ⟨by rw [e0]; exact q1, by rw [e1]; exact q2, fun k g1 g2 => ?_⟩
  rw [e0] at g2
  rw [h 269 _ (by unfold kYs; omega)]
  exact q3 k g1 g2
theorem yP.dn {w' : eW} {n a m y s : Int} {u u' : Int → Int} (h : ∀ c k, kYs n c k → w' c k = w c k) (hy : 0 ≤ y ∧ y < n) (hs : 0 ≤ s) (hd : yD w m y) (hl : ∀ j, 0 ≤ j → j < m → w' (17 * a + j + 97) 1 = w (17 * a + j + 97) 1 ∧ w' (17 * a + j + 97) 2 = w (17 * a + j + 97) 2) (hv : ∀ j, 0 ≤ j → j < m → u' j = u j) (q : yP w a m y s u) : yP w' a m y s u' := by
  have d1 := hd.1
  have e0 : w' 270 y = w 270 y := h _ _ (by unfold kYs; omega)
  have e1 : w' 271 y = w 271 y := h _ _ (by unfold kYs; omega)
  obtain ⟨N, q1, q2⟩ := q
  refine ⟨N, fun j g1 g2 => by rw [hv j g1 g2]; exact q1 j g1 g2, fun k g1 g2 j g3 g4 => ?_⟩
  rw [e0] at g2
  rw [h 269 _ (by unfold kYs; omega), e1, (hl j g3 g4).1, (hl j g3 g4).2]
  exact q2 k g1 g2 j g3 g4
/-- what may be done here, may be done from what is known -/
theorem rwC.dn {h t0 x a b c : Int} (q : kI (pj w s) OP OD CL h t0) (hw : e_rf (pj w s) w) (hb : x = 10 → b < w 262 0) (hR : rwC w x a b c) : rwC (pj w s) x a b c := by
  have hT := q.1
  have hC := q.cd
  have e86 : ∀ a k, 0 ≤ a → a ≤ 3 → (k = 7 ∨ k = 8 ∨ k = 11 ∨ k = 17 ∨ k = 19) → pj w s (17 * a + 86) k = w (17 * a + 86) k := fun a k g1 g2 g3 => by
    by_cases e : k = 7
    · rw [e]; exact ((kn_cd (hC a g1 g2)).rf hw).symm
    · exact (kq_A hT hw ⟨g1, g2⟩ (by omega)).symm
  have hn : ∀ a, 0 ≤ a → a ≤ 3 → w (17 * a + 86) 8 ≤ 6 := fun a g1 g2 => by have z := kn_joints hT ⟨g1, g2⟩; rw [e86 a 8 g1 g2 (by omega)] at z; exact z.2
  have eJ : ∀ a j k, 0 ≤ a → a ≤ 3 → 0 ≤ j → j < w (17 * a + 86) 8 → (k = 1 ∨ k = 2 ∨ k = 7) → pj w s (17 * a + j + 97) k = w (17 * a + j + 97) k := fun a j k g1 g2 g3 g4 g5 => by
    have z := hn a g1 g2
    exact (kq_J hT hw ⟨g1, g2⟩ (by omega) (by omega)).symm
  refine hR.eq e86 eJ (hT.kq hw (c := 74) (k := 3) (lo := 0) (hi := 1) rfl (by decide) (by decide) (by decide)).symm (fun a g1 g2 => ?_) (fun g => ?_)
  · have z := (hT.kq hw (kD_1 (hC a g1 g2)) (by decide) (by decide) (by decide)).symm
    rw [e86 a 7 g1 g2 (by omega)] at z
    exact z
  · have z := hR.2.2.2.2.2.2.2.2.1 g
    have hy : ∀ c k, kYs (w 262 0) c k → pj w s c k = w c k := fun c k g => pj_y g
    have hb2 := hb g
    exact ⟨z.2.2.2.1.dn hy ⟨z.2.1.1, hb2⟩, z.2.2.2.2.dn hy ⟨z.2.1.1, hb2⟩ (by decide) z.2.2.2.1 (fun j g1 g2 => ⟨eJ a j 1 z.1.1 z.1.2 g1 g2 (by omega), eJ a j 2 z.1.1 z.1.2 g1 g2 (by omega)⟩) (fun j g1 g2 => eJ a j 7 z.1.1 z.1.2 g1 g2 (by omega))⟩
theorem aP.bo {a : Int} (f : e_fr kBo w w1) (hT : e_Has kTy w) (hT' : e_Has kTy w1) (ga : 0 ≤ a ∧ a ≤ 3) (h : aP w a) : aP w1 a := by
  have hjn := kn_joints hT ga
  refine h.eq (f _ _ (by unfold kBo; omega)) (fun c k q => ?_) (fun k g => ⟨f _ _ (by unfold kBo; omega), f _ _ (by unfold kBo; omega)⟩)
  rcases q with q | ⟨j, hj, rfl, rfl⟩
  · exact Kq.of (f.mono (fun c k g => by unfold kBo at g; unfold kNh; omega)) hT hT' c k q
  · exact f _ _ (by unfold kBo; omega)
theorem bo_nh {c k : Int} (h : kBo c k) : kNh c k := by unfold kBo at h; unfold kNh; omega
/-- a row was written, and the cell went on -/
theorem kB.wr {x a b c hh : Int} (q : kB w OP OD CL S) (hT : e_Has kTy w) (hTv : e_Has kTy v) (hn : w 0 12 ≤ 1999) (hT1 : e_Has kTy w1) (f1 : e_fr kBo w w1) (o1 : ∀ c k, e_out elay c k → w1 c k = w c k) (x1 : wrX w w1 x a b c) (f2 : e_fr kNw w1 v) (o2 : ∀ c k, e_out elay c k → v c k = w1 c k) (hk : kn1 x ∧ kn1 a ∧ kn1 b ∧ kn1 c) (h0 : 0 ≤ hh) (hI : kI V OP OD CL hh (-1)) (fV : e_fr kNw (pj w (S (w 0 12))) V) (he : V 74 1 ≤ 16 * (w 0 12 + 1) + 900 * V 74 0) (hx : e_rx V v) (hA : aQ w1 v) (hR : rws (pj w (S (w 0 12))) OP OD CL x a b c V) : ∃ S', kB v OP OD CL S' := by
  have fN : e_fr kNh w v := e_fr.trans (f1.mono (fun c k g => bo_nh g)) (f2.mono (fun c k g => Or.inl g))
  have e0 : ∀ c k, (c = 0 ∨ c = 273 ∨ (262 ≤ c ∧ c ≤ 271)) → v c k = w1 c k := fun c k g => f2 c k (by unfold kNw; omega)
  have e1 : ∀ c k, (262 ≤ c ∧ c ≤ 271) → w1 c k = w c k := fun c k g => f1 c k (by unfold kBo; omega)
  obtain ⟨x2, x3, x4, x5, x6, x7⟩ := x1
  refine ⟨_, q.add (Kc.of fN hT hTv (fun c k g => (o2 c k g).trans (o1 c k g))) hn (by rw [e0 0 12 (by omega)]; exact x2) (by rw [e0 262 0 (by omega), e1 262 0 (by omega)]) (fun c k g1 g2 => by rw [e0 c k (by omega), e1 c k (by omega)]) (fun k g => by rw [e0 273 k (by omega)]; exact x3 k g) ⟨by rw [e0 273 _ (by omega)]; exact x4, by rw [e0 273 _ (by omega)]; exact x5, by rw [e0 273 _ (by omega)]; exact x6, by rw [e0 273 _ (by omega)]; exact x7⟩ hk ⟨hh, h0, hI⟩ (fun c k g => fV c k (x_nw g)) he hx (fun a g1 g2 => hA a g1 g2 (aP.bo f1 hT hT1 ⟨g1, g2⟩ (q.2.1.2 a g1 g2))) hR⟩
theorem kB.ev {i : Int} (q : kB w OP OD CL S) (hi : 0 ≤ i ∧ i ≤ w 0 12) : (∃ h, 0 ≤ h ∧ kI (pj w (S i)) OP OD CL h (-1)) ∧ pj w (S i) 74 1 ≤ 16 * i + 900 * pj w (S i) 74 0 ∧ pj w (S i) 74 0 ≤ 6000 ∧ pj w (S i) 74 1 ≤ 6000000 := by
  obtain ⟨⟨hh, h0, h1⟩, h2⟩ := q.2.2.2.2.1 i hi.1 hi.2
  have h3 := e_Has.get h1.1 (c := 74) (k := 0) (lo := 0) (hi := 6000) rfl (by decide)
  have h4 := q.1.1
  rw [pj_n nx74, pj_n nx74] at *
  exact ⟨⟨hh, h0, h1⟩, h2, h3.2, by omega⟩
section
variable {a b c : Int}
theorem rwC.k0 (h : (0 ≤ a ∧ a ≤ 3) ∧ 0 ≤ b ∧ b < w (w (17 * a + 86) 7) 1) : rwC w 0 a b c := ⟨by decide, fun _ => h, fun g => absurd g (by decide), fun g => absurd g (by decide), fun g => absurd g (by decide), fun g => absurd g (by decide), fun g => absurd g (by decide), fun g => absurd g (by decide), fun g => absurd g (by decide), fun g => absurd g (by decide)⟩
theorem rwC.k2 (h : 0 ≤ a ∧ a ≤ 63) : rwC w 2 a b c := ⟨by decide, fun g => absurd g (by decide), fun _ => h, fun g => absurd g (by decide), fun g => absurd g (by decide), fun g => absurd g (by decide), fun g => absurd g (by decide), fun g => absurd g (by decide), fun g => absurd g (by decide), fun g => absurd g (by decide)⟩
theorem rwC.k3 (h : 0 ≤ a ∧ a ≤ 63) : rwC w 3 a b c := ⟨by decide, fun g => absurd g (by decide), fun _ => h, fun g => absurd g (by decide), fun g => absurd g (by decide), fun g => absurd g (by decide), fun g => absurd g (by decide), fun g => absurd g (by decide), fun g => absurd g (by decide), fun g => absurd g (by decide)⟩
theorem rwC.k4 (h : 0 ≤ a ∧ a ≤ 7) : rwC w 4 a b c := ⟨by decide, fun g => absurd g (by decide), fun g => absurd g (by decide), fun _ => h, fun g => absurd g (by decide), fun g => absurd g (by decide), fun g => absurd g (by decide), fun g => absurd g (by decide), fun g => absurd g (by decide), fun g => absurd g (by decide)⟩
theorem rwC.k5 : rwC w 5 a b c := ⟨by decide, fun g => absurd g (by decide), fun g => absurd g (by decide), fun g => absurd g (by decide), fun g => absurd g (by decide), fun g => absurd g (by decide), fun g => absurd g (by decide), fun g => absurd g (by decide), fun g => absurd g (by decide), fun g => absurd g (by decide)⟩
theorem rwC.k6 (h : -1 ≤ a ∧ a ≤ 3) : rwC w 6 a b c := ⟨by decide, fun g => absurd g (by decide), fun g => absurd g (by decide), fun g => absurd g (by decide), fun _ => h, fun g => absurd g (by decide), fun g => absurd g (by decide), fun g => absurd g (by decide), fun g => absurd g (by decide), fun g => absurd g (by decide)⟩
theorem rwC.k7 (h : 0 ≤ a ∧ a ≤ 3) : rwC w 7 a b c := ⟨by decide, fun g => absurd g (by decide), fun g => absurd g (by decide), fun g => absurd g (by decide), fun g => absurd g (by decide), fun _ => h, fun g => absurd g (by decide), fun g => absurd g (by decide), fun g => absurd g (by decide), fun g => absurd g (by decide)⟩
theorem rwC.k8 (h : (0 ≤ a ∧ a ≤ 3) ∧ (0 ≤ b ∧ b < w (17 * a + 86) 8) ∧ w (17 * a + 86) 11 = 0 ∧ w (17 * a + b + 97) 1 ≤ c ∧ c ≤ w (17 * a + b + 97) 2) : rwC w 8 a b c := ⟨by decide, fun g => absurd g (by decide), fun g => absurd g (by decide), fun g => absurd g (by decide), fun g => absurd g (by decide), fun g => absurd g (by decide), fun _ => h, fun g => absurd g (by decide), fun g => absurd g (by decide), fun g => absurd g (by decide)⟩
theorem rwC.k9 (h : 0 ≤ a ∧ a ≤ 5) : rwC w 9 a b c := ⟨by decide, fun g => absurd g (by decide), fun g => absurd g (by decide), fun g => absurd g (by decide), fun g => absurd g (by decide), fun g => absurd g (by decide), fun g => absurd g (by decide), fun _ => h, fun g => absurd g (by decide), fun g => absurd g (by decide)⟩
theorem rwC.k10 (h : (0 ≤ a ∧ a ≤ 3) ∧ (0 ≤ b ∧ b ≤ 59) ∧ w (17 * a + 86) 11 = 0 ∧ yD w (w (17 * a + 86) 8) b ∧ yP w a (w (17 * a + 86) 8) b 0 (fun j => w (17 * a + j + 97) 7)) : rwC w 10 a b c := ⟨by decide, fun g => absurd g (by decide), fun g => absurd g (by decide), fun g => absurd g (by decide), fun g => absurd g (by decide), fun g => absurd g (by decide), fun g => absurd g (by decide), fun g => absurd g (by decide), fun _ => h, fun g => absurd g (by decide)⟩
theorem rwC.k11 (h : (0 ≤ a ∧ a ≤ 3) ∧ 0 ≤ w (17 * a + 86) 17 ∧ w (17 * a + 86) 11 = 0 ∧ w (17 * a + 86) 19 = 0 ∧ ¬ w 74 3 = 0) : rwC w 11 a b c := ⟨by decide, fun g => absurd g (by decide), fun g => absurd g (by decide), fun g => absurd g (by decide), fun g => absurd g (by decide), fun g => absurd g (by decide), fun g => absurd g (by decide), fun g => absurd g (by decide), fun g => absurd g (by decide), fun _ => h⟩
end
/-- what a call that is written down leaves -/
def opK (w w' : eW) : Prop := w' = w ∨ (w 0 13 = 1 ∧ e_fr kNv w w' ∧ ∃ OP OD CL S, kB w' OP OD CL S)
end D6
theorem c_253 {d : Nat} {w : eW} (h12 : 0 ≤ w 0 12 ∧ w 0 12 ≤ 2000) : e_Ok 20 elay kcode eI d 253 (0, [(0, (1, 0))], [], w) (fun r w' => ∃ z : Int, r = [(0, z)] ∧ w = w' ∧ (0 ≤ z ∧ z ≤ 1) ∧ ((z = 1 ∧ w 0 12 < 2000) ∨ (z = 0 ∧ 2000 ≤ w 0 12))) := by
  refine e_Ok.ps1 (x := (1, 0)) (q := 1) 1 rfl ?_
  refine e_Ok.getf (z := w 0 12) rfl (el_o rfl) rfl rfl rfl (by omega) ?_
  refine e_Ok.ps1 (x := (0, 2000)) (q := 7) 1 rfl ?_
  refine e_Ok.if2 rfl (fun h1 => ?_) (fun h1 => ?_)
  · replace h1 : (w 0 12 : Int) ≥ 2000 := h1
    refine e_Ok.ps1 (x := (0, 0)) (q := 15) 1 rfl ?_
    refine e_Ok.rets rfl rfl ?_
    exact ⟨_, rfl, rfl, ⟨by omega, by omega⟩, by omega⟩
  · replace h1 : (w 0 12 : Int) < 2000 := Int.not_le.mp (show ¬ ((w 0 12 : Int) ≥ 2000) from h1)
    refine e_Ok.ps1 (x := (0, 1)) (q := 15) 2 rfl ?_
    refine e_Ok.rets rfl rfl ?_
    exact ⟨_, rfl, rfl, ⟨by omega, by omega⟩, by omega⟩
theorem c_254 {d : Nat} {w : eW} (hT : e_Has kTy w) {x a b c : Int} (g_x : -2147483648 ≤ x ∧ x ≤ 2147483647) (g_a : -2147483648 ≤ a ∧ a ≤ 2147483647) (g_b : -2147483648 ≤ b ∧ b ≤ 2147483647) (g_c : -2147483648 ≤ c ∧ c ≤ 2147483647) (h12 : 0 ≤ w 0 12 ∧ w 0 12 ≤ 1999) : e_Ok 20 elay kcode eI d 254 (0, [(0, (1, 0)), (1, (0, x)), (2, (0, a)), (3, (0, b)), (4, (0, c))], [], w) (fun r w' => r = [] ∧ e_fr kBo w w' ∧ e_Has kTy w' ∧ wrX w w' x a b c) := by
  refine e_Ok.ps1 (x := (1, 0)) (q := 1) 1 rfl ?_
  refine e_Ok.getf (z := w 0 12) rfl (el_o rfl) rfl rfl rfl (by omega) ?_
  refine e_Ok.ps1 (x := (0, 4)) (q := 5) 1 rfl ?_
  refine e_Ok.mul (z := 4 * w 0 12) rfl (Int.mul_comm _ _) (by omega) ?_
  refine e_Ok.run (t' := (9, [(5, (0, 4 * w 0 12)), (0, (1, 0)), (1, (0, x)), (2, (0, a)), (3, (0, b)), (4, (0, c))], [(1, 0)], w)) 2 rfl ?_
  refine e_Ok.getr (z := 273) rfl (el_o rfl) rfl rfl (e_Has.eq hT (kt_o rfl)) ⟨by decide, by decide⟩ ?_
  refine e_Ok.ps2 (x := (0, x)) (y := (0, 4 * w 0 12)) (q := 15) 2 rfl ?_
  refine e_Ok.ast rfl (el_o rfl) rfl rfl (by omega) ?_
  generalize hw1 : e_up w 273 (4 * w 0 12) x = w1
  have hT3 : e_Has kTy w1 := e_Has.ups hT hw1 (kt_o rfl)
  refine e_Ok.ps1 (x := (1, 0)) (q := 17) 1 rfl ?_
  refine e_Ok.getr (z := 273) rfl (el_o rfl) rfl rfl (e_uq hw1 (Or.inl (by decide)) (e_Has.eq hT (kt_o rfl))) ⟨by decide, by decide⟩ ?_
  refine e_Ok.ps2 (x := (0, 1)) (y := (0, 4 * w 0 12)) (q := 23) 2 rfl ?_
  refine e_Ok.add (z := 4 * w 0 12 + 1) rfl rfl (by omega) ?_
  refine e_Ok.ps1 (x := (0, a)) (q := 25) 1 rfl ?_
  refine e_Ok.ast rfl (el_o rfl) rfl rfl (by omega) ?_
  generalize hw4 : e_up w1 273 (4 * w 0 12 + 1) a = w4
  have hT6 : e_Has kTy w4 := e_Has.ups hT3 hw4 (kt_o rfl)
  refine e_Ok.ps1 (x := (1, 0)) (q := 27) 1 rfl ?_
  refine e_Ok.getr (z := 273) rfl (el_o rfl) rfl rfl (e_uq hw4 (Or.inl (by decide)) (e_uq hw1 (Or.inl (by decide)) (e_Has.eq hT (kt_o rfl)))) ⟨by decide, by decide⟩ ?_
  refine e_Ok.ps2 (x := (0, 2)) (y := (0, 4 * w 0 12)) (q := 33) 2 rfl ?_
  refine e_Ok.add (z := 4 * w 0 12 + 2) rfl rfl (by omega) ?_
  refine e_Ok.ps1 (x := (0, b)) (q := 35) 1 rfl ?_
  refine e_Ok.ast rfl (el_o rfl) rfl rfl (by omega) ?_
  generalize hw7 : e_up w4 273 (4 * w 0 12 + 2) b = w7
  have hT9 : e_Has kTy w7 := e_Has.ups hT6 hw7 (kt_o rfl)
  refine e_Ok.ps1 (x := (1, 0)) (q := 37) 1 rfl ?_
  refine e_Ok.getr (z := 273) rfl (el_o rfl) rfl rfl (e_uq hw7 (Or.inl (by decide)) (e_uq hw4 (Or.inl (by decide)) (e_uq hw1 (Or.inl (by decide)) (e_Has.eq hT (kt_o rfl))))) ⟨by decide, by decide⟩ ?_
  refine e_Ok.ps2 (x := (0, 3)) (y := (0, 4 * w 0 12)) (q := 43) 2 rfl ?_
  refine e_Ok.add (z := 4 * w 0 12 + 3) rfl rfl (by omega) ?_
  refine e_Ok.ps1 (x := (0, c)) (q := 46) 1 rfl ?_
  refine e_Ok.ast rfl (el_o rfl) rfl rfl (by omega) ?_
  generalize hw10 : e_up w7 273 (4 * w 0 12 + 3) c = w10
  have hT12 : e_Has kTy w10 := e_Has.ups hT9 hw10 (kt_o rfl)
  refine e_Ok.ps2 (x := (1, 0)) (y := (1, 0)) (q := 49) 2 rfl ?_
  refine e_Ok.getf (z := w 0 12) rfl (el_o rfl) rfl rfl (e_uq hw10 (Or.inl (by decide)) (e_uq hw7 (Or.inl (by decide)) (e_uq hw4 (Or.inl (by decide)) (e_uq hw1 (Or.inl (by decide)) rfl)))) (by omega) ?_
  refine e_Ok.ps1 (x := (0, 1)) (q := 53) 1 rfl ?_
  refine e_Ok.add (z := w 0 12 + 1) rfl rfl (by omega) ?_
  refine e_Ok.putf rfl (el_o rfl) rfl rfl ?_
  generalize hw13 : e_up w10 0 12 (w 0 12 + 1) = w13
  have hT15 : e_Has kTy w13 := e_Has.ups hT12 hw13 (kt_o rfl)
  refine e_Ok.rets rfl rfl ?_
  exact ⟨rfl, (show e_fr kBo w w13 from e_fr.up (show e_fr kBo w w10 from e_fr.up (show e_fr kBo w w7 from e_fr.up (show e_fr kBo w w4 from e_fr.up (show e_fr kBo w w1 from e_fr.up (e_fr.refl w) hw1 (by first | exact Or.inl rfl | (unfold kBo; omega))) hw4 (by first | exact Or.inl rfl | (unfold kBo; omega))) hw7 (by first | exact Or.inl rfl | (unfold kBo; omega))) hw10 (by first | exact Or.inl rfl | (unfold kBo; omega))) hw13 (by first | exact Or.inr ⟨rfl, rfl⟩ | (unfold kBo; omega))), hT15, (e_ue hw13), (fun k g => by rw [← hw13, e_up_ne _ _ (by omega), ← hw10, e_up_ne _ _ (by omega), ← hw7, e_up_ne _ _ (by omega), ← hw4, e_up_ne _ _ (by omega), ← hw1, e_up_ne _ _ (by omega)]), (e_uq hw13 (Or.inl (by first | decide | omega)) (e_uq hw10 (Or.inr (by omega)) (e_uq hw7 (Or.inr (by omega)) (e_uq hw4 (Or.inr (by omega)) (e_ue hw1))))), (e_uq hw13 (Or.inl (by first | decide | omega)) (e_uq hw10 (Or.inr (by omega)) (e_uq hw7 (Or.inr (by omega)) (e_ue hw4)))), (e_uq hw13 (Or.inl (by first | decide | omega)) (e_uq hw10 (Or.inr (by omega)) (e_ue hw7))), (e_uq hw13 (Or.inl (by first | decide | omega)) (e_ue hw10))⟩
theorem c_255 {d : Nat} (hd : 29 ≤ d) {w : eW} (hT : e_Has kTy w) {OP OD CL : Int → Int → Int} {S : Int → eW} (q : kB w OP OD CL S) (hO : w 0 13 = 1) {x a b c : Int} (g_x : -2147483648 ≤ x ∧ x ≤ 2147483647) (g_a : -2147483648 ≤ a ∧ a ≤ 2147483647) (g_b : -2147483648 ≤ b ∧ b ≤ 2147483647) (g_c : -2147483648 ≤ c ∧ c ≤ 2147483647) (hx : x ≠ 1) (hR : rwC w x a b c) (hb : x = 10 → b < w 262 0) : e_Ok 20 elay kcode eI d 255 (0, [(0, (1, 0)), (1, (0, x)), (2, (0, a)), (3, (0, b)), (4, (0, c))], [], w) (fun r w' => ∃ z : Int, r = [(0, z)] ∧ e_Has kTy w' ∧ opK w w') := by
  obtain ⟨d, rfl⟩ : ∃ e, d = e + 1 := ⟨d - 1, by omega⟩
  have h12 := q.1.1
  refine e_Ok.ps1 (x := (1, 0)) (q := 1) 1 rfl ?_
  refine e_Ok.callV rfl (e_dq hd rfl) rfl rfl rfl rfl (c_253 h12) (fun r1 w2 h3 => ?_)
  obtain ⟨z5, rfl, rfl, q4r, q4x⟩ := h3
  refine e_Ok.nrm (q := 4) (st' := [(0, z5)]) rfl rfl ?_
  refine e_Ok.if1 rfl (fun h6 => ?_) (fun h6 => ?_)
  · replace h6 : (z5 : Int) ≠ 0 := h6
    refine e_Ok.run (t' := (16, [(0, (1, 0)), (1, (0, x)), (2, (0, a)), (3, (0, b)), (4, (0, c))], [(0, c), (0, b), (0, a), (0, x), (1, 0)], w)) 5 rfl ?_
    refine e_Ok.callV rfl (e_dq hd rfl) rfl rfl rfl rfl (e_Ok.out kAlk (c_254 hT g_x g_a g_b g_c (by omega))) (fun r7 w8 h9 => ?_)
    obtain ⟨⟨rfl, q10f, q10T, q10x⟩, q10o⟩ := h9
    refine e_Ok.nrm (q := 19) (st' := []) rfl rfl ?_
    refine e_Ok.run (t' := (25, [(0, (1, 0)), (1, (0, x)), (2, (0, a)), (3, (0, b)), (4, (0, c))], [(0, c), (0, b), (0, a), (0, x), (1, 0)], w8)) 5 rfl ?_
    obtain ⟨⟨hh, h0, hU⟩, hev, he0, he1⟩ := q.ev (i := w 0 12) (by omega)
    have hUw := q.2.2.2.1.pj
    have hU1 : e_rf (pj w (S (w 0 12))) w8 := pj.rfo hUw (fun c k g => q10f c k (fun g2 => by have z := bo_x g2; rcases g with g | g; exact g z.1; exact z.2 g))
    refine e_Ok.callV rfl (e_dq hd rfl) rfl rfl rfl rfl (car_r (e_dq hd rfl) hU1 hU h0 (by omega) (rwC.dn hU hUw hb hR) g_a g_b g_c) (fun r12 w13 h14 => ?_)
    obtain ⟨⟨⟨z, rfl⟩, q15f, q15T, V, c1, c2, c3, c4, c5, c6, c7⟩, q15o⟩ := h14
    refine e_Ok.nrm (q := 28) (st' := [(0, z)]) rfl rfl ?_
    refine e_Ok.rets rfl rfl ?_
    have hB := kB.wr q hT q15T (by omega) q10T q10f q10o q10x q15f q15o ⟨g_x, g_a, g_b, g_c⟩ h0 c2 c3 (by omega) c1.rx c7 (c6 (by omega))
    exact ⟨_, rfl, q15T, Or.inr ⟨hO, (show e_fr kNv w w13 from e_fr.trans (show e_fr kNv w w8 from e_fr.trans (e_fr.refl w) (e_fr.mono q10f (fun c k q => by exact Or.inr q))) (e_fr.mono q15f (fun c k q => by exact Or.inl q))), OP, OD, CL, hB⟩⟩
  · replace h6 : (z5 : Int) = 0 := Classical.not_not.mp (show ¬ ((z5 : Int) ≠ 0) from h6)
    refine e_Ok.ps1 (x := (0, (-3))) (q := 9) 1 rfl ?_
    refine e_Ok.rets rfl rfl ?_
    exact ⟨_, rfl, hT, Or.inl rfl⟩
end
end
-- part d7
section
noncomputable section
/-! the class: calls that are written down -/
theorem c_246 {d : Nat} (hd : 21 ≤ d) {w : eW} (hT : e_Has kTy w) {a : Int} (ga : -2147483648 ≤ a ∧ a ≤ 2147483647) : e_Ok 20 elay kcode eI d 246 (0, [(0, (1, 0)), (1, (0, a))], [], w) (fun r w' => ∃ z : Int, r = [(0, z)] ∧ w = w' ∧ ((z = 1 ∧ 0 ≤ a ∧ a < w 0 11) ∨ (z = 0 ∧ (a < 0 ∨ w 0 11 ≤ a)))) := by
  obtain ⟨d, rfl⟩ : ∃ e, d = e + 1 := ⟨d - 1, by omega⟩
  have hw0 := e_Has.get hT (c := 0) (k := 11) (lo := 0) (hi := 4) (kt_o rfl) (by decide)
  refine e_Ok.ps3 (x := (1, 0)) (y := (0, 0)) (z := (0, a)) (q := 3) 3 rfl ?_
  have h1 := (e_Has.get hT (c := 0) (k := 11) (lo := 0) (hi := 4) (kt_o rfl) (by decide))
  refine e_Ok.getf (z := w 0 11) rfl (el_o rfl) rfl rfl rfl (e_bq h1 (by decide) (by decide)) ?_
  refine e_Ok.ps1 (x := (0, 1)) (q := 7) 1 rfl ?_
  refine e_Ok.sub' (z := w 0 11 - 1) rfl rfl (by omega) ?_
  refine e_Ok.callS rfl (e_dq hd rfl) rfl rfl (c_242 (by omega) (by omega) (by omega)) (fun r2 w3 h4 => ?_)
  obtain ⟨z5, rfl, rfl, q6⟩ := h4
  obtain ⟨rfl, q6⟩ | ⟨rfl, q6⟩ := q6
  · refine e_Ok.nrm (q := 11) (st' := [(0, 1)]) rfl rfl ?_
    refine e_Ok.rets rfl rfl ?_
    exact ⟨_, rfl, rfl, by omega⟩
  · refine e_Ok.nrm (q := 11) (st' := [(0, 0)]) rfl rfl ?_
    refine e_Ok.rets rfl rfl ?_
    exact ⟨_, rfl, rfl, by omega⟩
theorem c_247 {d : Nat} (hd : 22 ≤ d) {w : eW} (hT : e_Has kTy w) {a j : Int} (ga : -2147483648 ≤ a ∧ a ≤ 2147483647) (gj : -2147483648 ≤ j ∧ j ≤ 2147483647) : e_Ok 20 elay kcode eI d 247 (0, [(0, (1, 0)), (1, (0, a)), (2, (0, j))], [], w) (fun r w' => ∃ z : Int, r = [(0, z)] ∧ w = w' ∧ ((z = 1 ∧ (0 ≤ a ∧ a < w 0 11) ∧ 0 ≤ j ∧ j < w (17 * a + 86) 8) ∨ (z = 0 ∧ (a < 0 ∨ w 0 11 ≤ a ∨ j < 0 ∨ w (17 * a + 86) 8 ≤ j)))) := by
  obtain ⟨d, rfl⟩ : ∃ e, d = e + 1 := ⟨d - 1, by omega⟩
  have hw0 := e_Has.get hT (c := 0) (k := 11) (lo := 0) (hi := 4) (kt_o rfl) (by decide)
  refine e_Ok.ps2 (x := (0, a)) (y := (1, 0)) (q := 2) 2 rfl ?_
  refine e_Ok.callV rfl (e_dq hd rfl) rfl rfl rfl rfl (c_246 (e_dq hd rfl) hT (by omega)) (fun r1 w2 h3 => ?_)
  obtain ⟨z4, rfl, rfl, q5⟩ := h3
  obtain ⟨rfl, q5⟩ | ⟨rfl, q5⟩ := q5
  · refine e_Ok.nrm (q := 5) (st' := [(0, 1)]) rfl rfl ?_
    refine e_Ok.if1 rfl (fun h6 => ?_) (fun h6 => ?_)
    · replace h6 : (1 : Int) = 0 := h6
      exfalso; omega
    · replace h6 : (1 : Int) ≠ 0 := (show ¬ ((1 : Int) = 0) from h6)
      refine e_Ok.ps3 (x := (1, 0)) (y := (0, 0)) (z := (0, j)) (q := 11) 3 rfl ?_
      refine e_Ok.getr (z := 9) rfl (el_o rfl) rfl rfl (e_Has.eq hT (kt_o rfl)) ⟨by decide, by decide⟩ ?_
      refine e_Ok.ps1 (x := (0, a)) (q := 15) 1 rfl ?_
      refine e_Ok.aald (z := 17 * a + 86) rfl (el_o rfl) rfl (by omega) (Eq.trans (e_Has.eq hT (k9 (by omega))) (by omega)) (by omega) ?_
      have h7 := (e_Has.get hT (c := 17 * a + 86) (k := 8) (lo := 0) (hi := 6) (kA_8 (a := a) (by omega) (by omega)) (by decide))
      refine e_Ok.getf (z := w (17 * a + 86) 8) rfl (lA0 (a := a) (by omega) (by omega)) rfl rfl rfl (e_bq h7 (by decide) (by decide)) ?_
      refine e_Ok.ps1 (x := (0, 1)) (q := 20) 1 rfl ?_
      refine e_Ok.sub' (z := w (17 * a + 86) 8 - 1) rfl rfl (by omega) ?_
      refine e_Ok.callS rfl (e_dq hd rfl) rfl rfl (c_242 (by omega) (by omega) (by omega)) (fun r8 w9 h10 => ?_)
      obtain ⟨z11, rfl, rfl, q12⟩ := h10
      obtain ⟨rfl, q12⟩ | ⟨rfl, q12⟩ := q12
      · refine e_Ok.nrm (q := 24) (st' := [(0, 1)]) rfl rfl ?_
        refine e_Ok.if1 rfl (fun h13 => ?_) (fun h13 => ?_)
        · replace h13 : (1 : Int) = 0 := h13
          exfalso; omega
        · replace h13 : (1 : Int) ≠ 0 := (show ¬ ((1 : Int) = 0) from h13)
          refine e_Ok.ps1 (x := (0, 1)) (q := 32) 2 rfl ?_
          refine e_Ok.rets rfl rfl ?_
          exact ⟨_, rfl, rfl, by omega⟩
      · refine e_Ok.nrm (q := 24) (st' := [(0, 0)]) rfl rfl ?_
        refine e_Ok.if1 rfl (fun h14 => ?_) (fun h14 => ?_)
        · replace h14 : (0 : Int) = 0 := h14
          refine e_Ok.ps1 (x := (0, 0)) (q := 32) 1 rfl ?_
          refine e_Ok.rets rfl rfl ?_
          exact ⟨_, rfl, rfl, by omega⟩
        · replace h14 : (0 : Int) ≠ 0 := (show ¬ ((0 : Int) = 0) from h14)
          exfalso; omega
  · refine e_Ok.nrm (q := 5) (st' := [(0, 0)]) rfl rfl ?_
    refine e_Ok.if1 rfl (fun h15 => ?_) (fun h15 => ?_)
    · replace h15 : (0 : Int) = 0 := h15
      refine e_Ok.ps1 (x := (0, 0)) (q := 32) 1 rfl ?_
      refine e_Ok.rets rfl rfl ?_
      exact ⟨_, rfl, rfl, by omega⟩
    · replace h15 : (0 : Int) ≠ 0 := (show ¬ ((0 : Int) = 0) from h15)
      exfalso; omega
theorem c_9_b {d : Nat} {w : eW} (hT : e_Has kTy w) {a : Int} (ga : 0 ≤ a ∧ a ≤ 3) : e_Ok 20 elay kcode eI d 9 (0, [(0, (1, 17 * a + 86))], [], w) (fun r w' => ∃ z : Int, r = [(0, z)] ∧ w = w' ∧ ((z = 1 ∧ 0 ≤ w (17 * a + 86) 17 ∧ w (17 * a + 86) 19 = 0) ∨ (z = 0 ∧ (w (17 * a + 86) 17 < 0 ∨ w (17 * a + 86) 19 ≠ 0)))) := by
  refine e_Ok.ps1 (x := (1, 17 * a + 86)) (q := 1) 1 rfl ?_
  have h1 := (e_Has.get hT (c := 17 * a + 86) (k := 17) (lo := (-1)) (hi := 59) (kA_17 (a := a) rfl ga) (by decide))
  refine e_Ok.getf (z := w (17 * a + 86) 17) rfl (lA0 (a := a) rfl ga) rfl rfl rfl (e_bq h1 (by decide) (by decide)) ?_
  refine e_Ok.if1 rfl (fun h2 => ?_) (fun h2 => ?_)
  · replace h2 : (w (17 * a + 86) 17 : Int) < 0 := h2
    refine e_Ok.ps1 (x := (0, 0)) (q := 19) 1 rfl ?_
    refine e_Ok.rets rfl rfl ?_
    exact ⟨_, rfl, rfl, by omega⟩
  · replace h2 : (w (17 * a + 86) 17 : Int) ≥ 0 := Int.not_lt.mp (show ¬ ((w (17 * a + 86) 17 : Int) < 0) from h2)
    refine e_Ok.ps1 (x := (1, 17 * a + 86)) (q := 8) 1 rfl ?_
    have h3 := (e_Has.get hT (c := 17 * a + 86) (k := 19) (lo := (-2147483648)) (hi := 2147483647) (kA_19 (a := a) rfl ga) (by decide))
    refine e_Ok.getf (z := w (17 * a + 86) 19) rfl (lA0 (a := a) rfl ga) rfl rfl rfl (e_bq h3 (by decide) (by decide)) ?_
    refine e_Ok.if1 rfl (fun h4 => ?_) (fun h4 => ?_)
    · replace h4 : (w (17 * a + 86) 19 : Int) ≠ 0 := h4
      refine e_Ok.ps1 (x := (0, 0)) (q := 19) 1 rfl ?_
      refine e_Ok.rets rfl rfl ?_
      exact ⟨_, rfl, rfl, by omega⟩
    · replace h4 : (w (17 * a + 86) 19 : Int) = 0 := Classical.not_not.mp (show ¬ ((w (17 * a + 86) 19 : Int) ≠ 0) from h4)
      refine e_Ok.ps1 (x := (0, 1)) (q := 19) 2 rfl ?_
      refine e_Ok.rets rfl rfl ?_
      exact ⟨_, rfl, rfl, by omega⟩
theorem c_213 {d : Nat} (hd : 31 ≤ d) {w : eW} (hT : e_Has kTy w) (hO : 0 ≤ w 0 13 ∧ w 0 13 ≤ 1) (hC : ∀ a, 0 ≤ a → a ≤ 3 → isCd (w (17 * a + 86) 7)) (hB : w 0 13 = 1 → ∃ OP OD CL S, kB w OP OD CL S) {a : Int} (g_a : (-2147483648) ≤ a ∧ a ≤ 2147483647) {b : Int} (g_b : (-2147483648) ≤ b ∧ b ≤ 2147483647) : e_Ok 20 elay kcode eI d 213 (0, [(0, (1, 0)), (1, (0, a)), (2, (0, b))], [], w) (fun r w' => ∃ z : Int, r = [(0, z)] ∧ e_Has kTy w' ∧ opK w w') := by
  obtain ⟨d, rfl⟩ : ∃ e, d = e + 1 := ⟨d - 1, by omega⟩
  have hw0 := e_Has.get hT (c := 0) (k := 11) (lo := 0) (hi := 4) (kt_o rfl) (by decide)
  refine e_Ok.ps2 (x := (0, a)) (y := (1, 0)) (q := 2) 2 rfl ?_
  refine e_Ok.callV rfl (e_dq hd rfl) rfl rfl rfl rfl (c_246 (e_dq hd rfl) hT (by omega)) (fun r1 w2 h3 => ?_)
  obtain ⟨z4, rfl, rfl, q5⟩ := h3
  obtain ⟨rfl, q5⟩ | ⟨rfl, q5⟩ := q5
  · refine e_Ok.nrm (q := 5) (st' := [(0, 1)]) rfl rfl ?_
    refine e_Ok.if1 rfl (fun h6 => ?_) (fun h6 => ?_)
    · replace h6 : (1 : Int) = 0 := h6
      exfalso; omega
    · replace h6 : (1 : Int) ≠ 0 := (show ¬ ((1 : Int) = 0) from h6)
      have hcd := hC a (by omega) (by omega)
      have hcd2 := hcd; unfold isCd at hcd2
      have hrt := e_Has.get hT (kD_1 hcd) (by decide)
      refine e_Ok.ps3 (x := (1, 0)) (y := (0, 0)) (z := (0, b)) (q := 11) 3 rfl ?_
      refine e_Ok.getr (z := 9) rfl (el_o rfl) rfl rfl (e_Has.eq hT (kt_o rfl)) ⟨by decide, by decide⟩ ?_
      refine e_Ok.ps1 (x := (0, a)) (q := 15) 1 rfl ?_
      refine e_Ok.aald (z := 17 * a + 86) rfl (el_o rfl) rfl (by omega) (Eq.trans (e_Has.eq hT (k9 (by omega))) (by omega)) (by omega) ?_
      refine e_Ok.getr (z := w (17 * a + 86) 7) rfl (lA0 (a := a) (by omega) (by omega)) rfl rfl rfl (by omega) ?_
      have h7 := (e_Has.get hT (c := w (17 * a + 86) 7) (k := 1) (lo := 0) (hi := 32) (kD_1 hcd) (by decide))
      refine e_Ok.getf (z := w (w (17 * a + 86) 7) 1) rfl (lD0 hcd) rfl rfl rfl (e_bq h7 (by decide) (by decide)) ?_
      refine e_Ok.ps1 (x := (0, 1)) (q := 23) 1 rfl ?_
      refine e_Ok.sub' (z := w (w (17 * a + 86) 7) 1 - 1) rfl rfl (by omega) ?_
      refine e_Ok.callS rfl (e_dq hd rfl) rfl rfl (c_242 (by omega) (by omega) (by omega)) (fun r8 w9 h10 => ?_)
      obtain ⟨z11, rfl, rfl, q12⟩ := h10
      obtain ⟨rfl, q12⟩ | ⟨rfl, q12⟩ := q12
      · refine e_Ok.nrm (q := 27) (st' := [(0, 1)]) rfl rfl ?_
        refine e_Ok.if1 rfl (fun h13 => ?_) (fun h13 => ?_)
        · replace h13 : (1 : Int) ≠ 0 := h13
          refine e_Ok.ps1 (x := (1, 0)) (q := 33) 1 rfl ?_
          refine e_Ok.getf (z := w 0 13) rfl (el_o rfl) rfl rfl rfl (by omega) ?_
          refine e_Ok.if1 rfl (fun h14 => ?_) (fun h14 => ?_)
          · replace h14 : (w 0 13 : Int) ≠ 0 := h14
            refine e_Ok.ps1 (x := (1, 0)) (q := 43) 1 rfl ?_
            refine e_Ok.getr (z := 8) rfl (el_o rfl) rfl rfl (e_Has.eq hT (kt_o rfl)) ⟨by decide, by decide⟩ ?_
            refine e_Ok.callV rfl (e_dq hd rfl) rfl rfl rfl rfl (c_36 hT) (fun r15 w16 h17 => ?_)
            obtain ⟨z19, rfl, rfl, q18r, q18x⟩ := h17
            refine e_Ok.nrm (q := 49) (st' := [(0, z19)]) rfl rfl ?_
            refine e_Ok.if1 rfl (fun h20 => ?_) (fun h20 => ?_)
            · replace h20 : (z19 : Int) ≥ 0 := h20
              refine e_Ok.run (t' := (60, [(0, (1, 0)), (1, (0, a)), (2, (0, b))], [(0, 0), (0, b), (0, a), (0, 0), (1, 0)], w)) 5 rfl ?_
              obtain ⟨OP, OD, CL, S, hK⟩ := hB (by omega)
              refine e_Ok.callV rfl (e_dq hd rfl) rfl rfl rfl rfl (c_255 (e_dq hd rfl) hT hK (by omega) (by omega) (by omega) (by omega) (by omega) (by decide) (rwC.k0 ⟨by omega, by omega, by omega⟩) (fun g => absurd g (by decide))) (fun r21 w22 h23 => ?_)
              obtain ⟨z24, rfl, q25T, q25x⟩ := h23
              refine e_Ok.nrm (q := 63) (st' := [(0, z24)]) rfl rfl ?_
              refine e_Ok.rets rfl rfl ?_
              exact ⟨_, rfl, q25T, q25x⟩
            · replace h20 : (z19 : Int) < 0 := Int.not_le.mp (show ¬ ((z19 : Int) ≥ 0) from h20)
              refine e_Ok.ps1 (x := (0, (-3))) (q := 54) 1 rfl ?_
              refine e_Ok.rets rfl rfl ?_
              exact ⟨_, rfl, hT, Or.inl rfl⟩
          · replace h14 : (w 0 13 : Int) = 0 := Classical.not_not.mp (show ¬ ((w 0 13 : Int) ≠ 0) from h14)
            refine e_Ok.ps1 (x := (0, (-2))) (q := 41) 1 rfl ?_
            refine e_Ok.rets rfl rfl ?_
            exact ⟨_, rfl, hT, Or.inl rfl⟩
        · replace h13 : (1 : Int) = 0 := Classical.not_not.mp (show ¬ ((1 : Int) ≠ 0) from h13)
          exfalso; omega
      · refine e_Ok.nrm (q := 27) (st' := [(0, 0)]) rfl rfl ?_
        refine e_Ok.if1 rfl (fun h26 => ?_) (fun h26 => ?_)
        · replace h26 : (0 : Int) ≠ 0 := h26
          exfalso; omega
        · replace h26 : (0 : Int) = 0 := Classical.not_not.mp (show ¬ ((0 : Int) ≠ 0) from h26)
          refine e_Ok.ps1 (x := (0, (-1))) (q := 31) 1 rfl ?_
          refine e_Ok.rets rfl rfl ?_
          exact ⟨_, rfl, hT, Or.inl rfl⟩
  · refine e_Ok.nrm (q := 5) (st' := [(0, 0)]) rfl rfl ?_
    refine e_Ok.if1 rfl (fun h27 => ?_) (fun h27 => ?_)
    · replace h27 : (0 : Int) = 0 := h27
      refine e_Ok.ps1 (x := (0, (-1))) (q := 31) 1 rfl ?_
      refine e_Ok.rets rfl rfl ?_
      exact ⟨_, rfl, hT, Or.inl rfl⟩
    · replace h27 : (0 : Int) ≠ 0 := (show ¬ ((0 : Int) = 0) from h27)
      exfalso; omega
theorem c_215 {d : Nat} (hd : 31 ≤ d) {w : eW} (hT : e_Has kTy w) (hO : 0 ≤ w 0 13 ∧ w 0 13 ≤ 1) (hC : ∀ a, 0 ≤ a → a ≤ 3 → isCd (w (17 * a + 86) 7)) (hB : w 0 13 = 1 → ∃ OP OD CL S, kB w OP OD CL S) {a : Int} (g_a : (-2147483648) ≤ a ∧ a ≤ 2147483647) {b : Int} (g_b : (-2147483648) ≤ b ∧ b ≤ 2147483647) : e_Ok 20 elay kcode eI d 215 (0, [(0, (1, 0)), (1, (0, a)), (2, (0, b))], [], w) (fun r w' => ∃ z : Int, r = [(0, z)] ∧ e_Has kTy w' ∧ opK w w') := by
  obtain ⟨d, rfl⟩ : ∃ e, d = e + 1 := ⟨d - 1, by omega⟩
  have hw0 := e_Has.get hT (c := 0) (k := 11) (lo := 0) (hi := 4) (kt_o rfl) (by decide)
  refine e_Ok.ps1 (x := (0, a)) (q := 1) 1 rfl ?_
  refine e_Ok.callS rfl (e_dq hd rfl) rfl rfl (c_245 (e_dq hd rfl) (by omega)) (fun r1 w2 h3 => ?_)
  obtain ⟨z4, rfl, rfl, q5⟩ := h3
  obtain ⟨rfl, q5⟩ | ⟨rfl, q5⟩ := q5
  · refine e_Ok.nrm (q := 4) (st' := [(0, 1)]) rfl rfl ?_
    refine e_Ok.if1 rfl (fun h6 => ?_) (fun h6 => ?_)
    · replace h6 : (1 : Int) ≠ 0 := h6
      refine e_Ok.ps1 (x := (1, 0)) (q := 10) 1 rfl ?_
      refine e_Ok.getf (z := w 0 13) rfl (el_o rfl) rfl rfl rfl (by omega) ?_
      refine e_Ok.if1 rfl (fun h7 => ?_) (fun h7 => ?_)
      · replace h7 : (w 0 13 : Int) ≠ 0 := h7
        refine e_Ok.run (t' := (24, [(0, (1, 0)), (1, (0, a)), (2, (0, b))], [(0, 0), (0, b), (0, a), (0, 2), (1, 0)], w)) 5 rfl ?_
        obtain ⟨OP, OD, CL, S, hK⟩ := hB (by omega)
        refine e_Ok.callV rfl (e_dq hd rfl) rfl rfl rfl rfl (c_255 (e_dq hd rfl) hT hK (by omega) (by omega) (by omega) (by omega) (by omega) (by decide) (rwC.k2 (by omega)) (fun g => absurd g (by decide))) (fun r8 w9 h10 => ?_)
        obtain ⟨z11, rfl, q12T, q12x⟩ := h10
        refine e_Ok.nrm (q := 27) (st' := [(0, z11)]) rfl rfl ?_
        refine e_Ok.rets rfl rfl ?_
        exact ⟨_, rfl, q12T, q12x⟩
      · replace h7 : (w 0 13 : Int) = 0 := Classical.not_not.mp (show ¬ ((w 0 13 : Int) ≠ 0) from h7)
        refine e_Ok.ps1 (x := (0, (-2))) (q := 18) 1 rfl ?_
        refine e_Ok.rets rfl rfl ?_
        exact ⟨_, rfl, hT, Or.inl rfl⟩
    · replace h6 : (1 : Int) = 0 := Classical.not_not.mp (show ¬ ((1 : Int) ≠ 0) from h6)
      exfalso; omega
  · refine e_Ok.nrm (q := 4) (st' := [(0, 0)]) rfl rfl ?_
    refine e_Ok.if1 rfl (fun h13 => ?_) (fun h13 => ?_)
    · replace h13 : (0 : Int) ≠ 0 := h13
      exfalso; omega
    · replace h13 : (0 : Int) = 0 := Classical.not_not.mp (show ¬ ((0 : Int) ≠ 0) from h13)
      refine e_Ok.ps1 (x := (0, (-1))) (q := 8) 1 rfl ?_
      refine e_Ok.rets rfl rfl ?_
      exact ⟨_, rfl, hT, Or.inl rfl⟩
theorem c_216 {d : Nat} (hd : 31 ≤ d) {w : eW} (hT : e_Has kTy w) (hO : 0 ≤ w 0 13 ∧ w 0 13 ≤ 1) (hC : ∀ a, 0 ≤ a → a ≤ 3 → isCd (w (17 * a + 86) 7)) (hB : w 0 13 = 1 → ∃ OP OD CL S, kB w OP OD CL S) {a : Int} (g_a : (-2147483648) ≤ a ∧ a ≤ 2147483647) {b : Int} (g_b : (-2147483648) ≤ b ∧ b ≤ 2147483647) {c : Int} (g_c : 0 ≤ c ∧ c ≤ 1) : e_Ok 20 elay kcode eI d 216 (0, [(0, (1, 0)), (1, (0, a)), (2, (0, b)), (3, (0, c))], [], w) (fun r w' => ∃ z : Int, r = [(0, z)] ∧ e_Has kTy w' ∧ opK w w') := by
  obtain ⟨d, rfl⟩ : ∃ e, d = e + 1 := ⟨d - 1, by omega⟩
  have hw0 := e_Has.get hT (c := 0) (k := 11) (lo := 0) (hi := 4) (kt_o rfl) (by decide)
  refine e_Ok.ps1 (x := (0, a)) (q := 1) 1 rfl ?_
  refine e_Ok.callS rfl (e_dq hd rfl) rfl rfl (c_245 (e_dq hd rfl) (by omega)) (fun r1 w2 h3 => ?_)
  obtain ⟨z4, rfl, rfl, q5⟩ := h3
  obtain ⟨rfl, q5⟩ | ⟨rfl, q5⟩ := q5
  · refine e_Ok.nrm (q := 4) (st' := [(0, 1)]) rfl rfl ?_
    refine e_Ok.if1 rfl (fun h6 => ?_) (fun h6 => ?_)
    · replace h6 : (1 : Int) ≠ 0 := h6
      refine e_Ok.ps1 (x := (1, 0)) (q := 10) 1 rfl ?_
      refine e_Ok.getf (z := w 0 13) rfl (el_o rfl) rfl rfl rfl (by omega) ?_
      refine e_Ok.if1 rfl (fun h7 => ?_) (fun h7 => ?_)
      · replace h7 : (w 0 13 : Int) ≠ 0 := h7
        refine e_Ok.run (t' := (24, [(0, (1, 0)), (1, (0, a)), (2, (0, b)), (3, (0, c))], [(0, c), (0, b), (0, a), (0, 3), (1, 0)], w)) 5 rfl ?_
        have hJ10 : ∀ m9 : Int, 0 ≤ m9 ∧ m9 ≤ 1 → e_Ok 20 elay kcode eI (d + 1) 216 (32, [(0, (1, 0)), (1, (0, a)), (2, (0, b)), (3, (0, c))], [(0, m9), (0, b), (0, a), (0, 3), (1, 0)], w) (fun r w' => ∃ z : Int, r = [(0, z)] ∧ e_Has kTy w' ∧ opK w w') := by
          intro m9 m9r
          obtain ⟨OP, OD, CL, S, hK⟩ := hB (by omega)
          refine e_Ok.callV rfl (e_dq hd rfl) rfl rfl rfl rfl (c_255 (e_dq hd rfl) hT hK (by omega) (by omega) (by omega) (by omega) (by omega) (by decide) (rwC.k3 (by omega)) (fun g => absurd g (by decide))) (fun r11 w12 h13 => ?_)
          obtain ⟨z14, rfl, q15T, q15x⟩ := h13
          show e_Ok 20 elay kcode eI (d + 1) 216 (35, [(0, (1, 0)), (1, (0, a)), (2, (0, b)), (3, (0, c))], [(0, z14)], w12) _
          refine e_Ok.rets rfl rfl ?_
          exact ⟨_, rfl, q15T, q15x⟩
        refine e_Ok.if1 rfl (fun h8 => ?_) (fun h8 => ?_)
        · exact e_Ok.run 1 rfl (hJ10 0 (by omega))
        · exact e_Ok.run 2 rfl (hJ10 1 (by omega))
      · replace h7 : (w 0 13 : Int) = 0 := Classical.not_not.mp (show ¬ ((w 0 13 : Int) ≠ 0) from h7)
        refine e_Ok.ps1 (x := (0, (-2))) (q := 18) 1 rfl ?_
        refine e_Ok.rets rfl rfl ?_
        exact ⟨_, rfl, hT, Or.inl rfl⟩
    · replace h6 : (1 : Int) = 0 := Classical.not_not.mp (show ¬ ((1 : Int) ≠ 0) from h6)
      exfalso; omega
  · refine e_Ok.nrm (q := 4) (st' := [(0, 0)]) rfl rfl ?_
    refine e_Ok.if1 rfl (fun h16 => ?_) (fun h16 => ?_)
    · replace h16 : (0 : Int) ≠ 0 := h16
      exfalso; omega
    · replace h16 : (0 : Int) = 0 := Classical.not_not.mp (show ¬ ((0 : Int) ≠ 0) from h16)
      refine e_Ok.ps1 (x := (0, (-1))) (q := 8) 1 rfl ?_
      refine e_Ok.rets rfl rfl ?_
      exact ⟨_, rfl, hT, Or.inl rfl⟩
theorem c_217 {d : Nat} (hd : 31 ≤ d) {w : eW} (hT : e_Has kTy w) (hO : 0 ≤ w 0 13 ∧ w 0 13 ≤ 1) (hC : ∀ a, 0 ≤ a → a ≤ 3 → isCd (w (17 * a + 86) 7)) (hB : w 0 13 = 1 → ∃ OP OD CL S, kB w OP OD CL S) {a : Int} (g_a : (-2147483648) ≤ a ∧ a ≤ 2147483647) {b : Int} (g_b : 0 ≤ b ∧ b ≤ 1) {c : Int} (g_c : 0 ≤ c ∧ c ≤ 1) : e_Ok 20 elay kcode eI d 217 (0, [(0, (1, 0)), (1, (0, a)), (2, (0, b)), (3, (0, c))], [], w) (fun r w' => ∃ z : Int, r = [(0, z)] ∧ e_Has kTy w' ∧ opK w w') := by
  obtain ⟨d, rfl⟩ : ∃ e, d = e + 1 := ⟨d - 1, by omega⟩
  have hw0 := e_Has.get hT (c := 0) (k := 11) (lo := 0) (hi := 4) (kt_o rfl) (by decide)
  have h742 := e_Has.get hT (c := 74) (k := 2) (lo := 0) (hi := 8) (kt_o rfl) (by decide)
  refine e_Ok.ps3 (x := (1, 0)) (y := (0, 0)) (z := (0, a)) (q := 3) 3 rfl ?_
  refine e_Ok.getr (z := 74) rfl (el_o rfl) rfl rfl (e_Has.eq hT (kt_o rfl)) ⟨by decide, by decide⟩ ?_
  have h1 := (e_Has.get hT (c := 74) (k := 2) (lo := 0) (hi := 8) (kt_o rfl) (by decide))
  refine e_Ok.getf (z := w 74 2) rfl (el_o rfl) rfl rfl rfl (e_bq h1 (by decide) (by decide)) ?_
  refine e_Ok.ps1 (x := (0, 1)) (q := 10) 1 rfl ?_
  refine e_Ok.sub' (z := w 74 2 - 1) rfl rfl (by omega) ?_
  refine e_Ok.callS rfl (e_dq hd rfl) rfl rfl (c_242 (by omega) (by omega) (by omega)) (fun r2 w3 h4 => ?_)
  obtain ⟨z5, rfl, rfl, q6⟩ := h4
  obtain ⟨rfl, q6⟩ | ⟨rfl, q6⟩ := q6
  · refine e_Ok.nrm (q := 14) (st' := [(0, 1)]) rfl rfl ?_
    refine e_Ok.if1 rfl (fun h7 => ?_) (fun h7 => ?_)
    · replace h7 : (1 : Int) ≠ 0 := h7
      refine e_Ok.ps1 (x := (1, 0)) (q := 20) 1 rfl ?_
      refine e_Ok.getf (z := w 0 13) rfl (el_o rfl) rfl rfl rfl (by omega) ?_
      refine e_Ok.if1 rfl (fun h8 => ?_) (fun h8 => ?_)
      · replace h8 : (w 0 13 : Int) ≠ 0 := h8
        refine e_Ok.ps4 (x := (0, b)) (y := (0, a)) (z := (0, 4)) (u := (1, 0)) (q := 33) 4 rfl ?_
        have hJ11 : ∀ m10 : Int, 0 ≤ m10 ∧ m10 ≤ 1 → e_Ok 20 elay kcode eI (d + 1) 217 (41, [(0, (1, 0)), (1, (0, a)), (2, (0, b)), (3, (0, c))], [(0, m10), (0, a), (0, 4), (1, 0)], w) (fun r w' => ∃ z : Int, r = [(0, z)] ∧ e_Has kTy w' ∧ opK w w') := by
          intro m10 m10r
          refine e_Ok.run (t' := (42, [(0, (1, 0)), (1, (0, a)), (2, (0, b)), (3, (0, c))], [(0, c), (0, m10), (0, a), (0, 4), (1, 0)], w)) 1 rfl ?_
          have hJ14 : ∀ m13 : Int, 0 ≤ m13 ∧ m13 ≤ 1 → e_Ok 20 elay kcode eI (d + 1) 217 (50, [(0, (1, 0)), (1, (0, a)), (2, (0, b)), (3, (0, c))], [(0, m13), (0, m10), (0, a), (0, 4), (1, 0)], w) (fun r w' => ∃ z : Int, r = [(0, z)] ∧ e_Has kTy w' ∧ opK w w') := by
            intro m13 m13r
            obtain ⟨OP, OD, CL, S, hK⟩ := hB (by omega)
            refine e_Ok.callV rfl (e_dq hd rfl) rfl rfl rfl rfl (c_255 (e_dq hd rfl) hT hK (by omega) (by omega) (by omega) (by omega) (by omega) (by decide) (rwC.k4 (by omega)) (fun g => absurd g (by decide))) (fun r15 w16 h17 => ?_)
            obtain ⟨z18, rfl, q19T, q19x⟩ := h17
            show e_Ok 20 elay kcode eI (d + 1) 217 (53, [(0, (1, 0)), (1, (0, a)), (2, (0, b)), (3, (0, c))], [(0, z18)], w16) _
            refine e_Ok.rets rfl rfl ?_
            exact ⟨_, rfl, q19T, q19x⟩
          refine e_Ok.if1 rfl (fun h12 => ?_) (fun h12 => ?_)
          · exact e_Ok.run 1 rfl (hJ14 0 (by omega))
          · exact e_Ok.run 2 rfl (hJ14 1 (by omega))
        refine e_Ok.if1 rfl (fun h9 => ?_) (fun h9 => ?_)
        · exact e_Ok.run 1 rfl (hJ11 0 (by omega))
        · exact e_Ok.run 2 rfl (hJ11 1 (by omega))
      · replace h8 : (w 0 13 : Int) = 0 := Classical.not_not.mp (show ¬ ((w 0 13 : Int) ≠ 0) from h8)
        refine e_Ok.ps1 (x := (0, (-2))) (q := 28) 1 rfl ?_
        refine e_Ok.rets rfl rfl ?_
        exact ⟨_, rfl, hT, Or.inl rfl⟩
    · replace h7 : (1 : Int) = 0 := Classical.not_not.mp (show ¬ ((1 : Int) ≠ 0) from h7)
      exfalso; omega
  · refine e_Ok.nrm (q := 14) (st' := [(0, 0)]) rfl rfl ?_
    refine e_Ok.if1 rfl (fun h20 => ?_) (fun h20 => ?_)
    · replace h20 : (0 : Int) ≠ 0 := h20
      exfalso; omega
    · replace h20 : (0 : Int) = 0 := Classical.not_not.mp (show ¬ ((0 : Int) ≠ 0) from h20)
      refine e_Ok.ps1 (x := (0, (-1))) (q := 18) 1 rfl ?_
      refine e_Ok.rets rfl rfl ?_
      exact ⟨_, rfl, hT, Or.inl rfl⟩
theorem c_218 {d : Nat} (hd : 31 ≤ d) {w : eW} (hT : e_Has kTy w) (hO : 0 ≤ w 0 13 ∧ w 0 13 ≤ 1) (hC : ∀ a, 0 ≤ a → a ≤ 3 → isCd (w (17 * a + 86) 7)) (hB : w 0 13 = 1 → ∃ OP OD CL S, kB w OP OD CL S) {a : Int} (g_a : (-2147483648) ≤ a ∧ a ≤ 2147483647) : e_Ok 20 elay kcode eI d 218 (0, [(0, (1, 0)), (1, (0, a))], [], w) (fun r w' => ∃ z : Int, r = [(0, z)] ∧ e_Has kTy w' ∧ opK w w') := by
  obtain ⟨d, rfl⟩ : ∃ e, d = e + 1 := ⟨d - 1, by omega⟩
  have hw0 := e_Has.get hT (c := 0) (k := 11) (lo := 0) (hi := 4) (kt_o rfl) (by decide)
  refine e_Ok.ps3 (x := (0, 7)) (y := (0, 0)) (z := (0, a)) (q := 4) 3 rfl ?_
  refine e_Ok.callS rfl (e_dq hd rfl) rfl rfl (c_242 (by omega) (by omega) (by omega)) (fun r1 w2 h3 => ?_)
  obtain ⟨z4, rfl, rfl, q5⟩ := h3
  obtain ⟨rfl, q5⟩ | ⟨rfl, q5⟩ := q5
  · refine e_Ok.nrm (q := 7) (st' := [(0, 1)]) rfl rfl ?_
    refine e_Ok.if1 rfl (fun h6 => ?_) (fun h6 => ?_)
    · replace h6 : (1 : Int) ≠ 0 := h6
      refine e_Ok.ps1 (x := (1, 0)) (q := 13) 1 rfl ?_
      refine e_Ok.getf (z := w 0 13) rfl (el_o rfl) rfl rfl rfl (by omega) ?_
      refine e_Ok.if1 rfl (fun h7 => ?_) (fun h7 => ?_)
      · replace h7 : (w 0 13 : Int) = 0 := h7
        refine e_Ok.ps1 (x := (0, (-2))) (q := 53) 1 rfl ?_
        refine e_Ok.rets rfl rfl ?_
        exact ⟨_, rfl, hT, Or.inl rfl⟩
      · replace h7 : (w 0 13 : Int) ≠ 0 := (show ¬ ((w 0 13 : Int) = 0) from h7)
        refine e_Ok.ps1 (x := (1, 0)) (q := 20) 1 rfl ?_
        refine e_Ok.getr (z := 74) rfl (el_o rfl) rfl rfl (e_Has.eq hT (kt_o rfl)) ⟨by decide, by decide⟩ ?_
        refine e_Ok.getr (z := 77) rfl (el_o rfl) rfl rfl (e_Has.eq hT (kt_o rfl)) ⟨by decide, by decide⟩ ?_
        refine e_Ok.ps1 (x := (0, a)) (q := 27) 1 rfl ?_
        have h8 := (e_Has.get hT (c := 77) (k := a) (lo := 0) (hi := 1) (kt_o rfl) (by decide))
        refine e_Ok.ald (z := w 77 a) rfl (el_o rfl) rfl (by omega) rfl (e_bq h8 (by decide) (by decide)) ?_
        refine e_Ok.if1 rfl (fun h9 => ?_) (fun h9 => ?_)
        · replace h9 : (w 77 a : Int) = 0 := h9
          refine e_Ok.ps1 (x := (0, (-2))) (q := 53) 1 rfl ?_
          refine e_Ok.rets rfl rfl ?_
          exact ⟨_, rfl, hT, Or.inl rfl⟩
        · replace h9 : (w 77 a : Int) ≠ 0 := (show ¬ ((w 77 a : Int) = 0) from h9)
          refine e_Ok.ps1 (x := (1, 0)) (q := 32) 1 rfl ?_
          refine e_Ok.getr (z := 74) rfl (el_o rfl) rfl rfl (e_Has.eq hT (kt_o rfl)) ⟨by decide, by decide⟩ ?_
          have h10 := (e_Has.get hT (c := 74) (k := 3) (lo := 0) (hi := 1) (kt_o rfl) (by decide))
          refine e_Ok.getf (z := w 74 3) rfl (el_o rfl) rfl rfl rfl (e_bq h10 (by decide) (by decide)) ?_
          refine e_Ok.if1 rfl (fun h11 => ?_) (fun h11 => ?_)
          · replace h11 : (w 74 3 : Int) ≠ 0 := h11
            refine e_Ok.ps1 (x := (0, (-2))) (q := 53) 1 rfl ?_
            refine e_Ok.rets rfl rfl ?_
            exact ⟨_, rfl, hT, Or.inl rfl⟩
          · replace h11 : (w 74 3 : Int) = 0 := Classical.not_not.mp (show ¬ ((w 74 3 : Int) ≠ 0) from h11)
            refine e_Ok.ps1 (x := (1, 0)) (q := 42) 1 rfl ?_
            refine e_Ok.getr (z := 74) rfl (el_o rfl) rfl rfl (e_Has.eq hT (kt_o rfl)) ⟨by decide, by decide⟩ ?_
            refine e_Ok.callV rfl (e_dq hd rfl) rfl rfl rfl rfl (c_31 hT) (fun r12 w13 h14 => ?_)
            obtain ⟨z16, rfl, rfl, q15r⟩ := h14
            refine e_Ok.nrm (q := 48) (st' := [(0, z16)]) rfl rfl ?_
            refine e_Ok.if1 rfl (fun h17 => ?_) (fun h17 => ?_)
            · replace h17 : (z16 : Int) ≠ 0 := h17
              refine e_Ok.run (t' := (59, [(0, (1, 0)), (1, (0, a))], [(0, 0), (0, 0), (0, a), (0, 5), (1, 0)], w)) 5 rfl ?_
              obtain ⟨OP, OD, CL, S, hK⟩ := hB (by omega)
              refine e_Ok.callV rfl (e_dq hd rfl) rfl rfl rfl rfl (c_255 (e_dq hd rfl) hT hK (by omega) (by omega) (by omega) (by omega) (by omega) (by decide) rwC.k5 (fun g => absurd g (by decide))) (fun r18 w19 h20 => ?_)
              obtain ⟨z21, rfl, q22T, q22x⟩ := h20
              refine e_Ok.nrm (q := 62) (st' := [(0, z21)]) rfl rfl ?_
              refine e_Ok.rets rfl rfl ?_
              exact ⟨_, rfl, q22T, q22x⟩
            · replace h17 : (z16 : Int) = 0 := Classical.not_not.mp (show ¬ ((z16 : Int) ≠ 0) from h17)
              refine e_Ok.ps1 (x := (0, (-2))) (q := 53) 1 rfl ?_
              refine e_Ok.rets rfl rfl ?_
              exact ⟨_, rfl, hT, Or.inl rfl⟩
    · replace h6 : (1 : Int) = 0 := Classical.not_not.mp (show ¬ ((1 : Int) ≠ 0) from h6)
      exfalso; omega
  · refine e_Ok.nrm (q := 7) (st' := [(0, 0)]) rfl rfl ?_
    refine e_Ok.if1 rfl (fun h23 => ?_) (fun h23 => ?_)
    · replace h23 : (0 : Int) ≠ 0 := h23
      exfalso; omega
    · replace h23 : (0 : Int) = 0 := Classical.not_not.mp (show ¬ ((0 : Int) ≠ 0) from h23)
      refine e_Ok.ps1 (x := (0, (-1))) (q := 11) 1 rfl ?_
      refine e_Ok.rets rfl rfl ?_
      exact ⟨_, rfl, hT, Or.inl rfl⟩
theorem c_219 {d : Nat} (hd : 31 ≤ d) {w : eW} (hT : e_Has kTy w) (hO : 0 ≤ w 0 13 ∧ w 0 13 ≤ 1) (hC : ∀ a, 0 ≤ a → a ≤ 3 → isCd (w (17 * a + 86) 7)) (hB : w 0 13 = 1 → ∃ OP OD CL S, kB w OP OD CL S) {a : Int} (g_a : (-2147483648) ≤ a ∧ a ≤ 2147483647) : e_Ok 20 elay kcode eI d 219 (0, [(0, (1, 0)), (1, (0, a))], [], w) (fun r w' => ∃ z : Int, r = [(0, z)] ∧ e_Has kTy w' ∧ opK w w') := by
  obtain ⟨d, rfl⟩ : ∃ e, d = e + 1 := ⟨d - 1, by omega⟩
  have hw0 := e_Has.get hT (c := 0) (k := 11) (lo := 0) (hi := 4) (kt_o rfl) (by decide)
  refine e_Ok.ps2 (x := (0, (-1))) (y := (0, a)) (q := 2) 2 rfl ?_
  refine e_Ok.if2 rfl (fun h1 => ?_) (fun h1 => ?_)
  · replace h1 : (a : Int) = (-1) := h1
    refine e_Ok.ps1 (x := (1, 0)) (q := 16) 1 rfl ?_
    refine e_Ok.getf (z := w 0 13) rfl (el_o rfl) rfl rfl rfl (by omega) ?_
    refine e_Ok.if1 rfl (fun h2 => ?_) (fun h2 => ?_)
    · replace h2 : (w 0 13 : Int) = 0 := h2
      refine e_Ok.ps1 (x := (0, (-2))) (q := 39) 1 rfl ?_
      refine e_Ok.rets rfl rfl ?_
      exact ⟨_, rfl, hT, Or.inl rfl⟩
    · replace h2 : (w 0 13 : Int) ≠ 0 := (show ¬ ((w 0 13 : Int) = 0) from h2)
      refine e_Ok.ps2 (x := (0, (-1))) (y := (0, a)) (q := 24) 2 rfl ?_
      refine e_Ok.if2 rfl (fun h3 => ?_) (fun h3 => ?_)
      · replace h3 : (a : Int) ≠ (-1) := h3
        exfalso; omega
      · replace h3 : (a : Int) = (-1) := Classical.not_not.mp (show ¬ ((a : Int) ≠ (-1)) from h3)
        refine e_Ok.ps1 (x := (1, 0)) (q := 28) 1 rfl ?_
        refine e_Ok.getr (z := 74) rfl (el_o rfl) rfl rfl (e_Has.eq hT (kt_o rfl)) ⟨by decide, by decide⟩ ?_
        have h4 := (e_Has.get hT (c := 74) (k := 3) (lo := 0) (hi := 1) (kt_o rfl) (by decide))
        refine e_Ok.getf (z := w 74 3) rfl (el_o rfl) rfl rfl rfl (e_bq h4 (by decide) (by decide)) ?_
        refine e_Ok.if1 rfl (fun h5 => ?_) (fun h5 => ?_)
        · replace h5 : (w 74 3 : Int) ≠ 0 := h5
          refine e_Ok.run (t' := (46, [(0, (1, 0)), (1, (0, a))], [(0, 0), (0, 0), (0, a), (0, 6), (1, 0)], w)) 5 rfl ?_
          obtain ⟨OP, OD, CL, S, hK⟩ := hB (by omega)
          refine e_Ok.callV rfl (e_dq hd rfl) rfl rfl rfl rfl (c_255 (e_dq hd rfl) hT hK (by omega) (by omega) (by omega) (by omega) (by omega) (by decide) (rwC.k6 (by omega)) (fun g => absurd g (by decide))) (fun r6 w7 h8 => ?_)
          obtain ⟨z9, rfl, q10T, q10x⟩ := h8
          refine e_Ok.nrm (q := 49) (st' := [(0, z9)]) rfl rfl ?_
          refine e_Ok.rets rfl rfl ?_
          exact ⟨_, rfl, q10T, q10x⟩
        · replace h5 : (w 74 3 : Int) = 0 := Classical.not_not.mp (show ¬ ((w 74 3 : Int) ≠ 0) from h5)
          refine e_Ok.ps1 (x := (0, (-2))) (q := 39) 1 rfl ?_
          refine e_Ok.rets rfl rfl ?_
          exact ⟨_, rfl, hT, Or.inl rfl⟩
  · replace h1 : (a : Int) ≠ (-1) := (show ¬ ((a : Int) = (-1)) from h1)
    refine e_Ok.ps2 (x := (0, a)) (y := (1, 0)) (q := 7) 2 rfl ?_
    refine e_Ok.callV rfl (e_dq hd rfl) rfl rfl rfl rfl (c_246 (e_dq hd rfl) hT (by omega)) (fun r11 w12 h13 => ?_)
    obtain ⟨z14, rfl, rfl, q15⟩ := h13
    obtain ⟨rfl, q15⟩ | ⟨rfl, q15⟩ := q15
    · refine e_Ok.nrm (q := 10) (st' := [(0, 1)]) rfl rfl ?_
      refine e_Ok.if1 rfl (fun h16 => ?_) (fun h16 => ?_)
      · replace h16 : (1 : Int) ≠ 0 := h16
        refine e_Ok.ps1 (x := (1, 0)) (q := 16) 1 rfl ?_
        refine e_Ok.getf (z := w 0 13) rfl (el_o rfl) rfl rfl rfl (by omega) ?_
        refine e_Ok.if1 rfl (fun h17 => ?_) (fun h17 => ?_)
        · replace h17 : (w 0 13 : Int) = 0 := h17
          refine e_Ok.ps1 (x := (0, (-2))) (q := 39) 1 rfl ?_
          refine e_Ok.rets rfl rfl ?_
          exact ⟨_, rfl, hT, Or.inl rfl⟩
        · replace h17 : (w 0 13 : Int) ≠ 0 := (show ¬ ((w 0 13 : Int) = 0) from h17)
          refine e_Ok.ps2 (x := (0, (-1))) (y := (0, a)) (q := 24) 2 rfl ?_
          refine e_Ok.if2 rfl (fun h18 => ?_) (fun h18 => ?_)
          · replace h18 : (a : Int) ≠ (-1) := h18
            refine e_Ok.run (t' := (46, [(0, (1, 0)), (1, (0, a))], [(0, 0), (0, 0), (0, a), (0, 6), (1, 0)], w)) 5 rfl ?_
            obtain ⟨OP, OD, CL, S, hK⟩ := hB (by omega)
            refine e_Ok.callV rfl (e_dq hd rfl) rfl rfl rfl rfl (c_255 (e_dq hd rfl) hT hK (by omega) (by omega) (by omega) (by omega) (by omega) (by decide) (rwC.k6 (by omega)) (fun g => absurd g (by decide))) (fun r19 w20 h21 => ?_)
            obtain ⟨z22, rfl, q23T, q23x⟩ := h21
            refine e_Ok.nrm (q := 49) (st' := [(0, z22)]) rfl rfl ?_
            refine e_Ok.rets rfl rfl ?_
            exact ⟨_, rfl, q23T, q23x⟩
          · replace h18 : (a : Int) = (-1) := Classical.not_not.mp (show ¬ ((a : Int) ≠ (-1)) from h18)
            exfalso; omega
      · replace h16 : (1 : Int) = 0 := Classical.not_not.mp (show ¬ ((1 : Int) ≠ 0) from h16)
        exfalso; omega
    · refine e_Ok.nrm (q := 10) (st' := [(0, 0)]) rfl rfl ?_
      refine e_Ok.if1 rfl (fun h24 => ?_) (fun h24 => ?_)
      · replace h24 : (0 : Int) ≠ 0 := h24
        exfalso; omega
      · replace h24 : (0 : Int) = 0 := Classical.not_not.mp (show ¬ ((0 : Int) ≠ 0) from h24)
        refine e_Ok.ps1 (x := (0, (-1))) (q := 14) 1 rfl ?_
        refine e_Ok.rets rfl rfl ?_
        exact ⟨_, rfl, hT, Or.inl rfl⟩
theorem c_220 {d : Nat} (hd : 31 ≤ d) {w : eW} (hT : e_Has kTy w) (hO : 0 ≤ w 0 13 ∧ w 0 13 ≤ 1) (hC : ∀ a, 0 ≤ a → a ≤ 3 → isCd (w (17 * a + 86) 7)) (hB : w 0 13 = 1 → ∃ OP OD CL S, kB w OP OD CL S) {a : Int} (g_a : (-2147483648) ≤ a ∧ a ≤ 2147483647) : e_Ok 20 elay kcode eI d 220 (0, [(0, (1, 0)), (1, (0, a))], [], w) (fun r w' => ∃ z : Int, r = [(0, z)] ∧ e_Has kTy w' ∧ opK w w') := by
  obtain ⟨d, rfl⟩ : ∃ e, d = e + 1 := ⟨d - 1, by omega⟩
  have hw0 := e_Has.get hT (c := 0) (k := 11) (lo := 0) (hi := 4) (kt_o rfl) (by decide)
  refine e_Ok.ps2 (x := (0, a)) (y := (1, 0)) (q := 2) 2 rfl ?_
  refine e_Ok.callV rfl (e_dq hd rfl) rfl rfl rfl rfl (c_246 (e_dq hd rfl) hT (by omega)) (fun r1 w2 h3 => ?_)
  obtain ⟨z4, rfl, rfl, q5⟩ := h3
  obtain ⟨rfl, q5⟩ | ⟨rfl, q5⟩ := q5
  · refine e_Ok.nrm (q := 5) (st' := [(0, 1)]) rfl rfl ?_
    refine e_Ok.if1 rfl (fun h6 => ?_) (fun h6 => ?_)
    · replace h6 : (1 : Int) ≠ 0 := h6
      refine e_Ok.ps1 (x := (1, 0)) (q := 11) 1 rfl ?_
      refine e_Ok.getf (z := w 0 13) rfl (el_o rfl) rfl rfl rfl (by omega) ?_
      refine e_Ok.if1 rfl (fun h7 => ?_) (fun h7 => ?_)
      · replace h7 : (w 0 13 : Int) = 0 := h7
        refine e_Ok.ps1 (x := (0, (-2))) (q := 31) 1 rfl ?_
        refine e_Ok.rets rfl rfl ?_
        exact ⟨_, rfl, hT, Or.inl rfl⟩
      · replace h7 : (w 0 13 : Int) ≠ 0 := (show ¬ ((w 0 13 : Int) = 0) from h7)
        refine e_Ok.ps1 (x := (1, 0)) (q := 18) 1 rfl ?_
        refine e_Ok.getr (z := 9) rfl (el_o rfl) rfl rfl (e_Has.eq hT (kt_o rfl)) ⟨by decide, by decide⟩ ?_
        refine e_Ok.ps1 (x := (0, a)) (q := 22) 1 rfl ?_
        refine e_Ok.aald (z := 17 * a + 86) rfl (el_o rfl) rfl (by omega) (Eq.trans (e_Has.eq hT (k9 (by omega))) (by omega)) (by omega) ?_
        have h8 := (e_Has.get hT (c := 17 * a + 86) (k := 16) (lo := (-1)) (hi := 15) (kA_16 (a := a) (by omega) (by omega)) (by decide))
        refine e_Ok.getf (z := w (17 * a + 86) 16) rfl (lA0 (a := a) (by omega) (by omega)) rfl rfl rfl (e_bq h8 (by decide) (by decide)) ?_
        refine e_Ok.if1 rfl (fun h9 => ?_) (fun h9 => ?_)
        · replace h9 : (w (17 * a + 86) 16 : Int) ≥ 0 := h9
          refine e_Ok.run (t' := (38, [(0, (1, 0)), (1, (0, a))], [(0, 0), (0, 0), (0, a), (0, 7), (1, 0)], w)) 5 rfl ?_
          obtain ⟨OP, OD, CL, S, hK⟩ := hB (by omega)
          refine e_Ok.callV rfl (e_dq hd rfl) rfl rfl rfl rfl (c_255 (e_dq hd rfl) hT hK (by omega) (by omega) (by omega) (by omega) (by omega) (by decide) (rwC.k7 (by omega)) (fun g => absurd g (by decide))) (fun r10 w11 h12 => ?_)
          obtain ⟨z13, rfl, q14T, q14x⟩ := h12
          refine e_Ok.nrm (q := 41) (st' := [(0, z13)]) rfl rfl ?_
          refine e_Ok.rets rfl rfl ?_
          exact ⟨_, rfl, q14T, q14x⟩
        · replace h9 : (w (17 * a + 86) 16 : Int) < 0 := Int.not_le.mp (show ¬ ((w (17 * a + 86) 16 : Int) ≥ 0) from h9)
          refine e_Ok.ps1 (x := (0, (-2))) (q := 31) 1 rfl ?_
          refine e_Ok.rets rfl rfl ?_
          exact ⟨_, rfl, hT, Or.inl rfl⟩
    · replace h6 : (1 : Int) = 0 := Classical.not_not.mp (show ¬ ((1 : Int) ≠ 0) from h6)
      exfalso; omega
  · refine e_Ok.nrm (q := 5) (st' := [(0, 0)]) rfl rfl ?_
    refine e_Ok.if1 rfl (fun h15 => ?_) (fun h15 => ?_)
    · replace h15 : (0 : Int) ≠ 0 := h15
      exfalso; omega
    · replace h15 : (0 : Int) = 0 := Classical.not_not.mp (show ¬ ((0 : Int) ≠ 0) from h15)
      refine e_Ok.ps1 (x := (0, (-1))) (q := 9) 1 rfl ?_
      refine e_Ok.rets rfl rfl ?_
      exact ⟨_, rfl, hT, Or.inl rfl⟩
theorem c_221 {d : Nat} (hd : 31 ≤ d) {w : eW} (hT : e_Has kTy w) (hO : 0 ≤ w 0 13 ∧ w 0 13 ≤ 1) (hC : ∀ a, 0 ≤ a → a ≤ 3 → isCd (w (17 * a + 86) 7)) (hB : w 0 13 = 1 → ∃ OP OD CL S, kB w OP OD CL S) {a : Int} (g_a : (-2147483648) ≤ a ∧ a ≤ 2147483647) {b : Int} (g_b : (-2147483648) ≤ b ∧ b ≤ 2147483647) {c : Int} (g_c : (-2147483648) ≤ c ∧ c ≤ 2147483647) : e_Ok 20 elay kcode eI d 221 (0, [(0, (1, 0)), (1, (0, a)), (2, (0, b)), (3, (0, c))], [], w) (fun r w' => ∃ z : Int, r = [(0, z)] ∧ e_Has kTy w' ∧ opK w w') := by
  obtain ⟨d, rfl⟩ : ∃ e, d = e + 1 := ⟨d - 1, by omega⟩
  have hw0 := e_Has.get hT (c := 0) (k := 11) (lo := 0) (hi := 4) (kt_o rfl) (by decide)
  refine e_Ok.ps3 (x := (0, b)) (y := (0, a)) (z := (1, 0)) (q := 3) 3 rfl ?_
  refine e_Ok.callV rfl (e_dq hd rfl) rfl rfl rfl rfl (c_247 (e_dq hd rfl) hT (by omega) (by omega)) (fun r1 w2 h3 => ?_)
  obtain ⟨z4, rfl, rfl, q5⟩ := h3
  obtain ⟨rfl, q5⟩ | ⟨rfl, q5⟩ := q5
  · refine e_Ok.nrm (q := 6) (st' := [(0, 1)]) rfl rfl ?_
    refine e_Ok.if1 rfl (fun h6 => ?_) (fun h6 => ?_)
    · replace h6 : (1 : Int) = 0 := h6
      exfalso; omega
    · replace h6 : (1 : Int) ≠ 0 := (show ¬ ((1 : Int) = 0) from h6)
      have hjn := kn_joints hT (a := a) (by omega)
      refine e_Ok.ps1 (x := (1, 0)) (q := 10) 1 rfl ?_
      refine e_Ok.getr (z := 9) rfl (el_o rfl) rfl rfl (e_Has.eq hT (kt_o rfl)) ⟨by decide, by decide⟩ ?_
      refine e_Ok.ps1 (x := (0, a)) (q := 14) 1 rfl ?_
      refine e_Ok.aald (z := 17 * a + 86) rfl (el_o rfl) rfl (by omega) (Eq.trans (e_Has.eq hT (k9 (by omega))) (by omega)) (by omega) ?_
      refine e_Ok.getr (z := 17 * a + 87) rfl (lA0 (a := a) (by omega) (by omega)) rfl rfl (Eq.trans (e_Has.eq hT (kA_0 (a := a) (by omega) (by omega))) (by omega)) (by omega) ?_
      refine e_Ok.ps1 (x := (0, b)) (q := 19) 1 rfl ?_
      refine e_Ok.aald (z := 17 * a + b + 97) rfl (lA1 (a := a) (by omega) (by omega)) rfl (by omega) (Eq.trans (e_Has.eq hT (kA87 (a := a) (by omega) (by omega) (by omega))) (by omega)) (by omega) ?_
      refine e_Ok.ps1 (x := (0, c)) (q := 21) 1 rfl ?_
      refine e_Ok.callV rfl (e_dq hd rfl) rfl (lJ (a := a) (j := b) (by omega) (by omega) (by omega)) rfl rfl (c_89 (e_dq hd rfl) (a := a) (j := b) hT (by omega) (by omega) (by omega)) (fun r7 w8 h9 => ?_)
      obtain ⟨z10, rfl, rfl, q11⟩ := h9
      replace q11 : (z10 = 1 ∧ w (17 * a + b + 97) 1 ≤ c ∧ c ≤ w (17 * a + b + 97) 2) ∨ (z10 = 0 ∧ ¬ (w (17 * a + b + 97) 1 ≤ c ∧ c ≤ w (17 * a + b + 97) 2)) := q11
      obtain ⟨rfl, q11⟩ | ⟨rfl, q11⟩ := q11
      · refine e_Ok.nrm (q := 24) (st' := [(0, 1)]) rfl rfl ?_
        refine e_Ok.if1 rfl (fun h12 => ?_) (fun h12 => ?_)
        · replace h12 : (1 : Int) ≠ 0 := h12
          refine e_Ok.ps1 (x := (1, 0)) (q := 30) 1 rfl ?_
          refine e_Ok.getf (z := w 0 13) rfl (el_o rfl) rfl rfl rfl (by omega) ?_
          refine e_Ok.if1 rfl (fun h13 => ?_) (fun h13 => ?_)
          · replace h13 : (w 0 13 : Int) = 0 := h13
            refine e_Ok.ps1 (x := (0, (-2))) (q := 48) 1 rfl ?_
            refine e_Ok.rets rfl rfl ?_
            exact ⟨_, rfl, hT, Or.inl rfl⟩
          · replace h13 : (w 0 13 : Int) ≠ 0 := (show ¬ ((w 0 13 : Int) = 0) from h13)
            refine e_Ok.ps1 (x := (1, 0)) (q := 37) 1 rfl ?_
            refine e_Ok.getr (z := 74) rfl (el_o rfl) rfl rfl (e_Has.eq hT (kt_o rfl)) ⟨by decide, by decide⟩ ?_
            have h14 := (e_Has.get hT (c := 74) (k := 3) (lo := 0) (hi := 1) (kt_o rfl) (by decide))
            refine e_Ok.getf (z := w 74 3) rfl (el_o rfl) rfl rfl rfl (e_bq h14 (by decide) (by decide)) ?_
            refine e_Ok.if1 rfl (fun h15 => ?_) (fun h15 => ?_)
            · replace h15 : (w 74 3 : Int) = 0 := h15
              refine e_Ok.run (t' := (55, [(0, (1, 0)), (1, (0, a)), (2, (0, b)), (3, (0, c))], [(0, c), (0, b), (0, a), (0, 8), (1, 0)], w)) 5 rfl ?_
              obtain ⟨OP, OD, CL, S, hK⟩ := hB (by omega)
              obtain ⟨hh, hh0, hI⟩ := hK.live
              have hst := hI.pw (by omega) a (by omega) (by omega) (by omega)
              refine e_Ok.callV rfl (e_dq hd rfl) rfl rfl rfl rfl (c_255 (e_dq hd rfl) hT hK (by omega) (by omega) (by omega) (by omega) (by omega) (by decide) (rwC.k8 ⟨by omega, by omega, hst, by omega, by omega⟩) (fun g => absurd g (by decide))) (fun r16 w17 h18 => ?_)
              obtain ⟨z19, rfl, q20T, q20x⟩ := h18
              refine e_Ok.nrm (q := 58) (st' := [(0, z19)]) rfl rfl ?_
              refine e_Ok.rets rfl rfl ?_
              exact ⟨_, rfl, q20T, q20x⟩
            · replace h15 : (w 74 3 : Int) ≠ 0 := (show ¬ ((w 74 3 : Int) = 0) from h15)
              refine e_Ok.ps1 (x := (0, (-2))) (q := 48) 1 rfl ?_
              refine e_Ok.rets rfl rfl ?_
              exact ⟨_, rfl, hT, Or.inl rfl⟩
        · replace h12 : (1 : Int) = 0 := Classical.not_not.mp (show ¬ ((1 : Int) ≠ 0) from h12)
          exfalso; omega
      · refine e_Ok.nrm (q := 24) (st' := [(0, 0)]) rfl rfl ?_
        refine e_Ok.if1 rfl (fun h21 => ?_) (fun h21 => ?_)
        · replace h21 : (0 : Int) ≠ 0 := h21
          exfalso; omega
        · replace h21 : (0 : Int) = 0 := Classical.not_not.mp (show ¬ ((0 : Int) ≠ 0) from h21)
          refine e_Ok.ps1 (x := (0, (-1))) (q := 28) 1 rfl ?_
          refine e_Ok.rets rfl rfl ?_
          exact ⟨_, rfl, hT, Or.inl rfl⟩
  · refine e_Ok.nrm (q := 6) (st' := [(0, 0)]) rfl rfl ?_
    refine e_Ok.if1 rfl (fun h22 => ?_) (fun h22 => ?_)
    · replace h22 : (0 : Int) = 0 := h22
      refine e_Ok.ps1 (x := (0, (-1))) (q := 28) 1 rfl ?_
      refine e_Ok.rets rfl rfl ?_
      exact ⟨_, rfl, hT, Or.inl rfl⟩
    · replace h22 : (0 : Int) ≠ 0 := (show ¬ ((0 : Int) = 0) from h22)
      exfalso; omega
theorem c_222 {d : Nat} (hd : 31 ≤ d) {w : eW} (hT : e_Has kTy w) (hO : 0 ≤ w 0 13 ∧ w 0 13 ≤ 1) (hC : ∀ a, 0 ≤ a → a ≤ 3 → isCd (w (17 * a + 86) 7)) (hB : w 0 13 = 1 → ∃ OP OD CL S, kB w OP OD CL S) {a : Int} (g_a : (-2147483648) ≤ a ∧ a ≤ 2147483647) {b : Int} (g_b : (-2147483648) ≤ b ∧ b ≤ 2147483647) : e_Ok 20 elay kcode eI d 222 (0, [(0, (1, 0)), (1, (0, a)), (2, (0, b))], [], w) (fun r w' => ∃ z : Int, r = [(0, z)] ∧ e_Has kTy w' ∧ opK w w') := by
  obtain ⟨d, rfl⟩ : ∃ e, d = e + 1 := ⟨d - 1, by omega⟩
  have hw0 := e_Has.get hT (c := 0) (k := 11) (lo := 0) (hi := 4) (kt_o rfl) (by decide)
  refine e_Ok.ps3 (x := (0, 5)) (y := (0, 0)) (z := (0, a)) (q := 3) 3 rfl ?_
  refine e_Ok.callS rfl (e_dq hd rfl) rfl rfl (c_242 (by omega) (by omega) (by omega)) (fun r1 w2 h3 => ?_)
  obtain ⟨z4, rfl, rfl, q5⟩ := h3
  obtain ⟨rfl, q5⟩ | ⟨rfl, q5⟩ := q5
  · refine e_Ok.nrm (q := 6) (st' := [(0, 1)]) rfl rfl ?_
    refine e_Ok.if1 rfl (fun h6 => ?_) (fun h6 => ?_)
    · replace h6 : (1 : Int) ≠ 0 := h6
      refine e_Ok.ps1 (x := (1, 0)) (q := 12) 1 rfl ?_
      refine e_Ok.getf (z := w 0 13) rfl (el_o rfl) rfl rfl rfl (by omega) ?_
      refine e_Ok.if1 rfl (fun h7 => ?_) (fun h7 => ?_)
      · replace h7 : (w 0 13 : Int) ≠ 0 := h7
        refine e_Ok.run (t' := (27, [(0, (1, 0)), (1, (0, a)), (2, (0, b))], [(0, 0), (0, b), (0, a), (0, 9), (1, 0)], w)) 5 rfl ?_
        obtain ⟨OP, OD, CL, S, hK⟩ := hB (by omega)
        refine e_Ok.callV rfl (e_dq hd rfl) rfl rfl rfl rfl (c_255 (e_dq hd rfl) hT hK (by omega) (by omega) (by omega) (by omega) (by omega) (by decide) (rwC.k9 (by omega)) (fun g => absurd g (by decide))) (fun r8 w9 h10 => ?_)
        obtain ⟨z11, rfl, q12T, q12x⟩ := h10
        refine e_Ok.nrm (q := 30) (st' := [(0, z11)]) rfl rfl ?_
        refine e_Ok.rets rfl rfl ?_
        exact ⟨_, rfl, q12T, q12x⟩
      · replace h7 : (w 0 13 : Int) = 0 := Classical.not_not.mp (show ¬ ((w 0 13 : Int) ≠ 0) from h7)
        refine e_Ok.ps1 (x := (0, (-2))) (q := 20) 1 rfl ?_
        refine e_Ok.rets rfl rfl ?_
        exact ⟨_, rfl, hT, Or.inl rfl⟩
    · replace h6 : (1 : Int) = 0 := Classical.not_not.mp (show ¬ ((1 : Int) ≠ 0) from h6)
      exfalso; omega
  · refine e_Ok.nrm (q := 6) (st' := [(0, 0)]) rfl rfl ?_
    refine e_Ok.if1 rfl (fun h13 => ?_) (fun h13 => ?_)
    · replace h13 : (0 : Int) ≠ 0 := h13
      exfalso; omega
    · replace h13 : (0 : Int) = 0 := Classical.not_not.mp (show ¬ ((0 : Int) ≠ 0) from h13)
      refine e_Ok.ps1 (x := (0, (-1))) (q := 10) 1 rfl ?_
      refine e_Ok.rets rfl rfl ?_
      exact ⟨_, rfl, hT, Or.inl rfl⟩
theorem c_224 {d : Nat} (hd : 31 ≤ d) {w : eW} (hT : e_Has kTy w) (hO : 0 ≤ w 0 13 ∧ w 0 13 ≤ 1) (hC : ∀ a, 0 ≤ a → a ≤ 3 → isCd (w (17 * a + 86) 7)) (hB : w 0 13 = 1 → ∃ OP OD CL S, kB w OP OD CL S) {a : Int} (g_a : (-2147483648) ≤ a ∧ a ≤ 2147483647) : e_Ok 20 elay kcode eI d 224 (0, [(0, (1, 0)), (1, (0, a))], [], w) (fun r w' => ∃ z : Int, r = [(0, z)] ∧ e_Has kTy w' ∧ opK w w') := by
  obtain ⟨d, rfl⟩ : ∃ e, d = e + 1 := ⟨d - 1, by omega⟩
  have hw0 := e_Has.get hT (c := 0) (k := 11) (lo := 0) (hi := 4) (kt_o rfl) (by decide)
  refine e_Ok.ps2 (x := (0, a)) (y := (1, 0)) (q := 2) 2 rfl ?_
  refine e_Ok.callV rfl (e_dq hd rfl) rfl rfl rfl rfl (c_246 (e_dq hd rfl) hT (by omega)) (fun r1 w2 h3 => ?_)
  obtain ⟨z4, rfl, rfl, q5⟩ := h3
  obtain ⟨rfl, q5⟩ | ⟨rfl, q5⟩ := q5
  · refine e_Ok.nrm (q := 5) (st' := [(0, 1)]) rfl rfl ?_
    refine e_Ok.if1 rfl (fun h6 => ?_) (fun h6 => ?_)
    · replace h6 : (1 : Int) ≠ 0 := h6
      refine e_Ok.ps1 (x := (1, 0)) (q := 11) 1 rfl ?_
      refine e_Ok.getf (z := w 0 13) rfl (el_o rfl) rfl rfl rfl (by omega) ?_
      refine e_Ok.if1 rfl (fun h7 => ?_) (fun h7 => ?_)
      · replace h7 : (w 0 13 : Int) = 0 := h7
        refine e_Ok.ps1 (x := (0, (-2))) (q := 43) 1 rfl ?_
        refine e_Ok.rets rfl rfl ?_
        exact ⟨_, rfl, hT, Or.inl rfl⟩
      · replace h7 : (w 0 13 : Int) ≠ 0 := (show ¬ ((w 0 13 : Int) = 0) from h7)
        refine e_Ok.ps1 (x := (1, 0)) (q := 18) 1 rfl ?_
        refine e_Ok.getr (z := 9) rfl (el_o rfl) rfl rfl (e_Has.eq hT (kt_o rfl)) ⟨by decide, by decide⟩ ?_
        refine e_Ok.ps1 (x := (0, a)) (q := 22) 1 rfl ?_
        refine e_Ok.aald (z := 17 * a + 86) rfl (el_o rfl) rfl (by omega) (Eq.trans (e_Has.eq hT (k9 (by omega))) (by omega)) (by omega) ?_
        refine e_Ok.callV rfl (e_dq hd rfl) rfl (lA0 (a := a) (by omega) (by omega)) rfl rfl (c_9_b (a := a) hT (by omega)) (fun r8 w9 h10 => ?_)
        obtain ⟨z11, rfl, rfl, q12⟩ := h10
        obtain ⟨rfl, q12⟩ | ⟨rfl, q12⟩ := q12
        · refine e_Ok.nrm (q := 26) (st' := [(0, 1)]) rfl rfl ?_
          refine e_Ok.if1 rfl (fun h13 => ?_) (fun h13 => ?_)
          · replace h13 : (1 : Int) = 0 := h13
            exfalso; omega
          · replace h13 : (1 : Int) ≠ 0 := (show ¬ ((1 : Int) = 0) from h13)
            refine e_Ok.ps1 (x := (1, 0)) (q := 30) 1 rfl ?_
            refine e_Ok.getr (z := 9) rfl (el_o rfl) rfl rfl (e_Has.eq hT (kt_o rfl)) ⟨by decide, by decide⟩ ?_
            refine e_Ok.ps1 (x := (0, a)) (q := 34) 1 rfl ?_
            refine e_Ok.aald (z := 17 * a + 86) rfl (el_o rfl) rfl (by omega) (Eq.trans (e_Has.eq hT (k9 (by omega))) (by omega)) (by omega) ?_
            have h14 := (e_Has.get hT (c := 17 * a + 86) (k := 11) (lo := 0) (hi := 2) (kA_11 (a := a) (by omega) (by omega)) (by decide))
            refine e_Ok.getf (z := w (17 * a + 86) 11) rfl (lA0 (a := a) (by omega) (by omega)) rfl rfl rfl (e_bq h14 (by decide) (by decide)) ?_
            refine e_Ok.if1 rfl (fun h15 => ?_) (fun h15 => ?_)
            · replace h15 : (w (17 * a + 86) 11 : Int) = 0 := h15
              refine e_Ok.ps1 (x := (1, 0)) (q := 45) 1 rfl ?_
              refine e_Ok.getr (z := 9) rfl (el_o rfl) rfl rfl (e_Has.eq hT (kt_o rfl)) ⟨by decide, by decide⟩ ?_
              refine e_Ok.ps1 (x := (0, a)) (q := 49) 1 rfl ?_
              refine e_Ok.aald (z := 17 * a + 86) rfl (el_o rfl) rfl (by omega) (Eq.trans (e_Has.eq hT (k9 (by omega))) (by omega)) (by omega) ?_
              have h16 := (e_Has.get hT (c := 17 * a + 86) (k := 16) (lo := (-1)) (hi := 15) (kA_16 (a := a) (by omega) (by omega)) (by decide))
              refine e_Ok.getf (z := w (17 * a + 86) 16) rfl (lA0 (a := a) (by omega) (by omega)) rfl rfl rfl (e_bq h16 (by decide) (by decide)) ?_
              refine e_Ok.if1 rfl (fun h17 => ?_) (fun h17 => ?_)
              · replace h17 : (w (17 * a + 86) 16 : Int) ≥ 0 := h17
                refine e_Ok.ps1 (x := (0, (-2))) (q := 68) 1 rfl ?_
                refine e_Ok.rets rfl rfl ?_
                exact ⟨_, rfl, hT, Or.inl rfl⟩
              · replace h17 : (w (17 * a + 86) 16 : Int) < 0 := Int.not_le.mp (show ¬ ((w (17 * a + 86) 16 : Int) ≥ 0) from h17)
                refine e_Ok.ps1 (x := (1, 0)) (q := 57) 1 rfl ?_
                refine e_Ok.getr (z := 74) rfl (el_o rfl) rfl rfl (e_Has.eq hT (kt_o rfl)) ⟨by decide, by decide⟩ ?_
                have h18 := (e_Has.get hT (c := 74) (k := 3) (lo := 0) (hi := 1) (kt_o rfl) (by decide))
                refine e_Ok.getf (z := w 74 3) rfl (el_o rfl) rfl rfl rfl (e_bq h18 (by decide) (by decide)) ?_
                refine e_Ok.if1 rfl (fun h19 => ?_) (fun h19 => ?_)
                · replace h19 : (w 74 3 : Int) ≠ 0 := h19
                  refine e_Ok.run (t' := (75, [(0, (1, 0)), (1, (0, a))], [(0, 0), (0, 0), (0, a), (0, 11), (1, 0)], w)) 5 rfl ?_
                  obtain ⟨OP, OD, CL, S, hK⟩ := hB (by omega)
                  refine e_Ok.callV rfl (e_dq hd rfl) rfl rfl rfl rfl (c_255 (e_dq hd rfl) hT hK (by omega) (by omega) (by omega) (by omega) (by omega) (by decide) (rwC.k11 ⟨by omega, by omega, by omega, by omega, by omega⟩) (fun g => absurd g (by decide))) (fun r20 w21 h22 => ?_)
                  obtain ⟨z23, rfl, q24T, q24x⟩ := h22
                  refine e_Ok.nrm (q := 78) (st' := [(0, z23)]) rfl rfl ?_
                  refine e_Ok.rets rfl rfl ?_
                  exact ⟨_, rfl, q24T, q24x⟩
                · replace h19 : (w 74 3 : Int) = 0 := Classical.not_not.mp (show ¬ ((w 74 3 : Int) ≠ 0) from h19)
                  refine e_Ok.ps1 (x := (0, (-2))) (q := 68) 1 rfl ?_
                  refine e_Ok.rets rfl rfl ?_
                  exact ⟨_, rfl, hT, Or.inl rfl⟩
            · replace h15 : (w (17 * a + 86) 11 : Int) ≠ 0 := (show ¬ ((w (17 * a + 86) 11 : Int) = 0) from h15)
              refine e_Ok.ps1 (x := (0, (-2))) (q := 43) 1 rfl ?_
              refine e_Ok.rets rfl rfl ?_
              exact ⟨_, rfl, hT, Or.inl rfl⟩
        · refine e_Ok.nrm (q := 26) (st' := [(0, 0)]) rfl rfl ?_
          refine e_Ok.if1 rfl (fun h25 => ?_) (fun h25 => ?_)
          · replace h25 : (0 : Int) = 0 := h25
            refine e_Ok.ps1 (x := (0, (-2))) (q := 43) 1 rfl ?_
            refine e_Ok.rets rfl rfl ?_
            exact ⟨_, rfl, hT, Or.inl rfl⟩
          · replace h25 : (0 : Int) ≠ 0 := (show ¬ ((0 : Int) = 0) from h25)
            exfalso; omega
    · replace h6 : (1 : Int) = 0 := Classical.not_not.mp (show ¬ ((1 : Int) ≠ 0) from h6)
      exfalso; omega
  · refine e_Ok.nrm (q := 5) (st' := [(0, 0)]) rfl rfl ?_
    refine e_Ok.if1 rfl (fun h26 => ?_) (fun h26 => ?_)
    · replace h26 : (0 : Int) ≠ 0 := h26
      exfalso; omega
    · replace h26 : (0 : Int) = 0 := Classical.not_not.mp (show ¬ ((0 : Int) ≠ 0) from h26)
      refine e_Ok.ps1 (x := (0, (-1))) (q := 9) 1 rfl ?_
      refine e_Ok.rets rfl rfl ?_
      exact ⟨_, rfl, hT, Or.inl rfl⟩
end
end
