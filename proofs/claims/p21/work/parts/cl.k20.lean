noncomputable section
/-! the class: trip -/
section Kl
variable {w w' : eW} {OP OD CL : Int → Int → Int} {h t0 : Int}
/-- power alone changes -/
theorem kI.pw1 (q : kI w OP OD CL h t0) (hT : e_Has kTy w') (f : ∀ c k, ¬ (c = 74 ∧ k = 3) → w' c k = w c k) (hW : w' 74 3 = 0 → ∀ a, 0 ≤ a → a ≤ 3 → a < w' 0 11 → w' (17 * a + 86) 11 = 0) : kI w' OP OD CL h t0 := by
  have hB := q.bel
  have hc := q.cd
  obtain ⟨q1, q2, q3, q4, q5, q6, q7, q8, q9⟩ := q
  have f' : e_fr (fun c k => c = 74 ∧ k = 3) w w' := fun c k g => f c k g
  refine ⟨hT, fun a g1 g2 => ?_, q3.fr f' (fun c k g1 g2 => by omega) (fun k => by omega) (by omega) (by omega), q4.fr f' (fun k => by omega), q5.fr f' (by omega) (fun k => by omega), hW, q7.eq (fun c k g => f c k (by unfold dC at g; omega)), fun j g1 g2 g3 => ?_, fun t g1 g2 => ?_⟩
  · exact (q2 a g1 g2).eq (kn_joints q1 ⟨g1, g2⟩).2 (fun c k g => f c k (by unfold dA at g; omega))
  · rw [f _ _ (by omega)]
    exact q8 j g1 g2 g3
  · exact (q9 t g1 g2).eq ⟨g1, g2⟩ q1 hc (fun c k g => f c k (by unfold dT dC at g; omega))
theorem kTy.pup (hT : e_Has kTy w) : e_Has kTy (e_up w 74 3 1) := e_Has.upr hT rfl (show kTy 74 3 = (0, 1) from rfl) (by decide)
theorem kI.pup (q : kI w OP OD CL h t0) : kI (e_up w 74 3 1) OP OD CL h t0 := q.pw1 (kTy.pup q.1) (fun c k g => e_up_ne _ _ (by omega)) (fun g => by rw [e_up_eq] at g; exact absurd g (by decide))
theorem kI.pdn (q : kI (e_up w 74 3 1) OP OD CL h t0) (hT : e_Has kTy w) (hz : ∀ a, 0 ≤ a → a ≤ 3 → a < w 0 11 → w (17 * a + 86) 11 = 0) : kI w OP OD CL h t0 := q.pw1 hT (fun c k g => (e_up_ne _ _ (by omega)).symm) (fun _ => hz)
/-- the arm a stands, power aside -/
theorem kI.std {a : Int} (q : kI (e_up w 74 3 1) OP OD CL h t0) (hT : e_Has kTy w') (ha : 0 ≤ a ∧ a ≤ 3) (hL : lgK w') (f : e_fr (fun c k => (c = 74 ∧ k = 1) ∨ c = 75 ∨ (154 ≤ c ∧ c ≤ 249 ∧ (c - 154) % 6 = 0 ∧ k = 10) ∨ (c = 17 * a + 86 ∧ (k = 11 ∨ k = 13 ∨ k = 18)) ∨ (17 * a + 97 ≤ c ∧ c ≤ 17 * a + 102 ∧ k = 8)) w w') (h1 : w' (17 * a + 86) 11 = 0) (h2 : w' (17 * a + 86) 18 = -1) (h3 : ∀ i, 0 ≤ i → i < 6 → w' (17 * a + i + 97) 8 = 0) : kI (e_up w' 74 3 1) OP OD CL h t0 := by
  have hn := (kn_joints q.1 ha).2
  have e : ∀ c k, ¬ (c = 74 ∧ k = 3) → e_up w' 74 3 1 c k = w' c k := fun c k g => e_up_ne _ _ (by omega)
  have e0 : ∀ c k, ¬ (c = 74 ∧ k = 3) → e_up w 74 3 1 c k = w c k := fun c k g => e_up_ne _ _ (by omega)
  have hA : aR (e_up w' 74 3 1) a := by
    refine (q.2.1 a ha.1 ha.2).stand ha hn (fun c k g1 g2 g3 => ?_) (by rw [e _ _ (by omega)]; exact h1) (by rw [e _ _ (by omega)]; exact h2) (fun i g1 g2 => by rw [e _ _ (by omega)]; exact h3 i g1 g2)
    unfold dA at g1
    rw [e _ _ (by omega), e0 _ _ (by omega)]
    exact f c k (by omega)
  refine kI.ar q (kTy.pup hT) ha (fun c k g => ?_) ?_ hA (fun g => by rw [e_up_eq] at g; exact absurd g (by decide))
  · by_cases g2 : c = 74 ∧ k = 3
    · rw [g2.1, g2.2, e_up_eq, e_up_eq]
    · rw [e _ _ g2, e0 _ _ g2]
      refine f c k (fun g3 => g ?_)
      unfold kAh
      rcases g3 with g3 | g3 | g3 | g3 | g3
      · exact Or.inr (Or.inl g3)
      · exact Or.inr (Or.inr (Or.inl g3))
      · refine Or.inl ?_
        unfold kHm
        simp only [g3.1, g3.2.1, g3.2.2.1, g3.2.2.2]
        simp
      · exact Or.inr (Or.inr (Or.inr (Or.inl ⟨g3.1, by omega⟩)))
      · exact Or.inr (Or.inr (Or.inr (Or.inr (Or.inr ⟨g3.1, g3.2.1⟩))))
  · exact hL.fr (S := fun c k => c = 74 ∧ k = 3) (fun c k g => e c k g) (by omega) (fun k => by omega)
end Kl
theorem c_17_b {d : Nat} {w : eW} (hT : e_Has kTy w) {a : Int} (g_a : 0 ≤ a ∧ a ≤ 3) : e_Ok 20 elay kcode eI d 17 (0, [(0, (1, 17 * a + 86))], [], w) (fun r w' => r = [] ∧ e_fr (kSt a) w w' ∧ e_Has kTy w' ∧ w' (17 * a + 86) 11 = 0 ∧ (∀ i, 0 ≤ i → i < 6 → w' (17 * a + i + 97) 8 = 0) ∧ w' (17 * a + 86) 18 = -1) := by
  refine e_Ok.run (t' := (2, [(0, (1, 17 * a + 86))], [(0, 0), (1, 17 * a + 86)], w)) 2 rfl ?_
  refine e_Ok.putf rfl (lA0 (a := a) (by omega) (by omega)) rfl rfl ?_
  generalize hw1 : e_up w (17 * a + 86) 11 0 = w1
  have f2 : e_fr (kSt a) w w1 := e_fr.up (e_fr.refl w) hw1 (by unfold kSt; omega)
  have hT3 : e_Has kTy w1 := e_Has.upr hT hw1 (kA_11 (a := a) (by omega) (by omega)) (by omega)
  refine e_Ok.run (t' := (7, [(0, (1, 17 * a + 86))], [(0, (-1)), (1, 17 * a + 86)], w1)) 2 rfl ?_
  refine e_Ok.putf rfl (lA0 (a := a) (by omega) (by omega)) rfl rfl ?_
  generalize hw4 : e_up w1 (17 * a + 86) 13 (-1) = w4
  have f5 : e_fr (kSt a) w w4 := e_fr.up f2 hw4 (by unfold kSt; omega)
  have hT6 : e_Has kTy w4 := e_Has.upr hT3 hw4 (kA_13 (a := a) (by omega) (by omega)) (by omega)
  refine e_Ok.run (t' := (12, [(0, (1, 17 * a + 86))], [(0, (-1)), (1, 17 * a + 86)], w4)) 2 rfl ?_
  refine e_Ok.putf rfl (lA0 (a := a) (by omega) (by omega)) rfl rfl ?_
  generalize hw7 : e_up w4 (17 * a + 86) 18 (-1) = w7
  have f8 : e_fr (kSt a) w w7 := e_fr.up f5 hw7 (by unfold kSt; omega)
  have hT9 : e_Has kTy w7 := e_Has.upr hT6 hw7 (kA_18 (a := a) (by omega) (by omega)) (by omega)
  refine e_Ok.run (t' := (17, [(1, (0, 0)), (0, (1, 17 * a + 86))], [], w7)) 2 rfl ?_
  have hL10 : ∀ (nn : Nat) (y1 : Int) (v1 : eW), e_fr (kSt a) w v1 ∧ e_Has kTy v1 ∧ (∀ i, 0 ≤ i → i < y1 → v1 (17 * a + i + 97) 8 = 0) ∧ v1 (17 * a + 86) 11 = 0 ∧ v1 (17 * a + 86) 18 = -1 ∧ (0 ≤ y1 ∧ y1 ≤ 6) → 6 - y1 < nn → e_Ok 20 elay kcode eI d 17 (17, [(0, (1, 17 * a + 86)), (1, (0, y1))], [], v1) (fun r w' => r = [] ∧ e_fr (kSt a) w w' ∧ e_Has kTy w' ∧ w' (17 * a + 86) 11 = 0 ∧ (∀ i, 0 ≤ i → i < 6 → w' (17 * a + i + 97) 8 = 0) ∧ w' (17 * a + 86) 18 = -1) := by
    intro nn
    induction nn with
    | zero => intro y1 v1 hj hm; obtain ⟨j12, j13, j14, j15, j16, j17⟩ := hj; exfalso; omega
    | succ nn ih11 =>
      intro y1 v1 hj hm
      obtain ⟨j12, j13, j14, j15, j16, j17⟩ := hj
      refine e_Ok.run (t' := (20, [(0, (1, 17 * a + 86)), (1, (0, y1))], [(0, 6), (0, y1)], v1)) 2 rfl ?_
      refine e_Ok.if2 rfl (fun h18 => ?_) (fun h18 => ?_)
      · replace h18 : (y1 : Int) ≥ 6 := h18
        refine e_Ok.rets rfl rfl ?_
        exact ⟨rfl, j12, j13, j15, fun i g1 g2 => j14 i g1 (by omega), j16⟩
      · replace h18 : (y1 : Int) < 6 := by have q : ¬ ((y1 : Int) ≥ 6) := h18; omega
        refine e_Ok.run (t' := (24, [(0, (1, 17 * a + 86)), (1, (0, y1))], [(1, 17 * a + 86)], v1)) 1 rfl ?_
        refine e_Ok.getr (z := 17 * a + 87) rfl (lA0 (a := a) (by omega) (by omega)) rfl rfl ((j12 (17 * a + 86) 0 (by unfold kSt; omega)).trans (Eq.trans (e_Has.eq hT (kA_0 (a := a) (by omega) (by omega))) (by omega))) (by omega) ?_
        refine e_Ok.run (t' := (28, [(0, (1, 17 * a + 86)), (1, (0, y1))], [(0, y1), (1, 17 * a + 87)], v1)) 1 rfl ?_
        refine e_Ok.aald (z := 17 * a + y1 + 97) rfl (lA1 (a := a) (by omega) (by omega)) rfl (by omega) ((j12 (17 * a + 87) y1 (by unfold kSt; omega)).trans (Eq.trans (e_Has.eq hT (kA87 (a := a) (by omega) (by omega) (by omega))) (by omega))) (by omega) ?_
        refine e_Ok.run (t' := (30, [(0, (1, 17 * a + 86)), (1, (0, y1))], [(0, 0), (1, 17 * a + y1 + 97)], v1)) 1 rfl ?_
        refine e_Ok.putf rfl (lJ (a := a) (j := y1) (by omega) (by omega) (by omega)) rfl rfl ?_
        generalize hw19 : e_up v1 (17 * a + y1 + 97) 8 0 = w19
        have f20 : e_fr (kSt a) w w19 := e_fr.up j12 hw19 (by unfold kSt; omega)
        have hT21 : e_Has kTy w19 := e_Has.upr j13 hw19 (kJ_8 (a := a) (j := y1) (by omega) (by omega) (by omega)) (by omega)
        refine e_Ok.inc (z := y1 + 1) rfl rfl (by omega) (by omega) ?_
        show e_Ok 20 elay kcode eI d 17 (36, [(1, (0, y1 + 1)), (0, (1, 17 * a + 86))], [], w19) _
        refine e_Ok.run (t' := (17, [(1, (0, y1 + 1)), (0, (1, 17 * a + 86))], [], w19)) 1 rfl ?_
        refine e_Ok.sub kAlk (e_sub_of rfl ?_) (ih11 (y1 + 1) w19 ⟨f20, hT21, (fun i g1 g2 => by rw [← hw19]; by_cases e : i = y1; (rw [e]; exact e_up_eq _ _ _ _); (rw [e_up_ne _ _ (Or.inl (by omega))]; exact j14 i g1 (by omega))), (by rw [← hw19]; exact (e_up_ne _ _ (Or.inl (by omega))).trans j15), (by rw [← hw19]; exact (e_up_ne _ _ (Or.inl (by omega))).trans j16), by omega⟩ (by omega))
        exact ⟨rfl, rfl, trivial⟩
  refine e_Ok.sub kAlk (e_sub_of rfl ?_) (hL10 (6 + 1 : Int).toNat 0 w7 ⟨f8, hT9, (fun i g1 g2 => by omega), (show w7 (17 * a + 86) 11 = 0 from (by rw [← hw7]; exact (e_up_ne _ _ (Or.inr (by omega))).trans (by rw [← hw4]; exact (e_up_ne _ _ (Or.inr (by omega))).trans (by rw [← hw1]; exact e_up_eq _ _ _ _)))), (show w7 (17 * a + 86) 18 = -1 from (by rw [← hw7]; exact e_up_eq _ _ _ _)), by omega⟩ (by omega))
  exact ⟨rfl, rfl, trivial⟩
set_option maxHeartbeats 4000000 in
theorem c_265 {d : Nat} (hd : 23 ≤ d) {w : eW} (hT : e_Has kTy w) {kd nb : Int} (g_kd : -2147483648 ≤ kd ∧ kd ≤ 2147483647) (g_nb : -2147483648 ≤ nb ∧ nb ≤ 2147483647) {OP OD CL : Int → Int → Int} {h t0 : Int} (q : kI w OP OD CL h t0) (he : w 74 1 ≤ 2147000000) : e_Ok 20 elay kcode eI d 265 (0, [(0, (1, 0)), (1, (0, kd)), (2, (0, nb))], [], w) (fun r w' => r = [] ∧ e_Has kTy w' ∧ (e_fr kNq w w' ∧ w' 74 0 = w 74 0) ∧ kI w' OP OD CL h t0 ∧ w' 74 3 = 0 ∧ w 74 1 ≤ w' 74 1 ∧ w' 74 1 ≤ w 74 1 + 5) := by
  obtain ⟨d, rfl⟩ : ∃ e, d = e + 1 := ⟨d - 1, by omega⟩
  have h74 := e_Has.get hT (c := 74) (k := 1) (lo := 0) (hi := 2147483647) rfl (by decide)
  have hac := e_Has.get hT (c := 0) (k := 11) (lo := 0) (hi := 4) rfl (by decide)
  refine e_Ok.run (t' := (1, [(0, (1, 0)), (1, (0, kd)), (2, (0, nb))], [(1, 0)], w)) 1 rfl ?_
  refine e_Ok.getr (z := 74) rfl (el_o rfl) rfl rfl (Eq.trans (e_Has.eq hT rfl) (by omega)) (by omega) ?_
  refine e_Ok.run (t' := (6, [(0, (1, 0)), (1, (0, kd)), (2, (0, nb))], [(0, nb), (0, kd), (1, 74)], w)) 2 rfl ?_
  refine e_Ok.callV rfl (by omega) rfl rfl rfl rfl (c_34 (by omega) hT (by omega) (by omega) (by omega)) (fun r1 w2 h3 => ?_)
  obtain ⟨rfl, q4f, q4T, q4x⟩ := h3
  have f5 : e_fr kNq w w2 := e_fr.trans (e_fr.refl w) (e_fr.mono q4f (fun c k q => by exact nq_kCt q))
  have hLt := q4x.1.2 q.lgk
  have hu0 : kI (e_up w2 74 3 1) OP OD CL h t0 := by
    refine kI.lg (kI.pup q) (kTy.pup q4T) (fun c k g => ?_) (hLt.fr (S := fun c k => c = 74 ∧ k = 3) (fun c k g => e_up_ne _ _ (by omega)) (by omega) (fun k => by omega))
    by_cases g2 : c = 74 ∧ k = 3
    · rw [g2.1, g2.2, e_up_eq, e_up_eq]
    · rw [e_up_ne _ _ (by omega), e_up_ne _ _ (by omega)]
      refine q4f c k (fun g3 => g ?_)
      unfold kCt at g3
      rcases g3 with g3 | g3
      · by_cases g4 : k = 1
        · exact Or.inr (Or.inl ⟨g3.1, g4⟩)
        · refine Or.inl ?_
          unfold kHm
          have g5 : 4 ≤ k := by omega
          simp [g3.1, g5]
      · exact Or.inr (Or.inr g3)
  have evt := q4x.1.1; have pw0 := q4x.2
  show e_Ok 20 elay kcode eI (d + 1) 265 (9, [(0, (1, 0)), (1, (0, kd)), (2, (0, nb))], [], w2) _
  refine e_Ok.run (t' := (11, [(3, (0, 0)), (0, (1, 0)), (1, (0, kd)), (2, (0, nb))], [], w2)) 2 rfl ?_
  have hL6 : ∀ (nn : Nat) (y3 : Int) (v1 : eW), e_fr kNq w v1 ∧ e_Has kTy v1 ∧ kI (e_up v1 74 3 1) OP OD CL h t0 ∧ lgK v1 ∧ (∀ i, 0 ≤ i → i < y3 → v1 (17 * i + 86) 11 = 0) ∧ ((w 74 1 ≤ v1 74 1 ∧ v1 74 1 ≤ w 74 1 + 1 + y3)) ∧ v1 74 3 = 0 ∧ v1 74 0 = w 74 0 ∧ v1 0 11 = w 0 11 ∧ (0 ≤ y3 ∧ y3 ≤ 4) → 4 - y3 < nn → e_Ok 20 elay kcode eI (d + 1) 265 (11, [(0, (1, 0)), (3, (0, y3))], [], v1) (fun r w' => r = [] ∧ e_Has kTy w' ∧ (e_fr kNq w w' ∧ w' 74 0 = w 74 0) ∧ kI w' OP OD CL h t0 ∧ w' 74 3 = 0 ∧ w 74 1 ≤ w' 74 1 ∧ w' 74 1 ≤ w 74 1 + 5) := by
    intro nn
    induction nn with
    | zero => intro y3 v1 hj hm; obtain ⟨j8, j9, j10, j11, j12, j13, j14, j15, j16, j17⟩ := hj; exfalso; omega
    | succ nn ih7 =>
      intro y3 v1 hj hm
      obtain ⟨j8, j9, j10, j11, j12, j13, j14, j15, j16, j17⟩ := hj
      refine e_Ok.run (t' := (13, [(0, (1, 0)), (3, (0, y3))], [(1, 0), (0, y3)], v1)) 2 rfl ?_
      have h18 := (e_Has.get hT (c := 0) (k := 11) (lo := 0) (hi := 4) rfl (by decide))
      refine e_Ok.getf (z := w 0 11) rfl (el_o rfl) rfl rfl ((j8 0 11 (by unfold kNq; omega)).trans rfl) (by omega) ?_
      refine e_Ok.if2 rfl (fun h19 => ?_) (fun h19 => ?_)
      · replace h19 : (y3 : Int) ≥ w 0 11 := h19
        refine e_Ok.rets rfl rfl ?_
        exact ⟨rfl, j9, ⟨j8, j15⟩, kI.pdn j10 j9 (fun i g1 g2 g3 => j12 i g1 (by omega)), j14, by omega, by omega⟩
      · replace h19 : (y3 : Int) < w 0 11 := by have q : ¬ ((y3 : Int) ≥ w 0 11) := h19; omega
        refine e_Ok.run (t' := (20, [(0, (1, 0)), (3, (0, y3))], [(1, 0)], v1)) 1 rfl ?_
        refine e_Ok.getr (z := 9) rfl (el_o rfl) rfl rfl ((j8 0 2 (by unfold kNq; omega)).trans (Eq.trans (e_Has.eq hT rfl) (by omega))) (by omega) ?_
        refine e_Ok.run (t' := (24, [(0, (1, 0)), (3, (0, y3))], [(0, y3), (1, 9)], v1)) 1 rfl ?_
        refine e_Ok.aald (z := 17 * y3 + 86) rfl (el_o rfl) rfl (by omega) ((j8 9 y3 (by unfold kNq; omega)).trans (Eq.trans (e_Has.eq hT (k9 (by omega))) (by omega))) (by omega) ?_
        have h20 := (e_Has.get j9 (c := 17 * y3 + 86) (k := 11) (lo := 0) (hi := 2) (kA_11 (a := y3) (by omega) (by omega)) (by decide))
        refine e_Ok.getf (z := v1 (17 * y3 + 86) 11) rfl (lA0 (a := y3) (by omega) (by omega)) rfl rfl rfl (by omega) ?_
        refine e_Ok.run (t' := (29, [(0, (1, 0)), (3, (0, y3))], [(0, 1), (0, v1 (17 * y3 + 86) 11)], v1)) 1 rfl ?_
        refine e_Ok.if2 rfl (fun h21 => ?_) (fun h21 => ?_)
        · replace h21 : (v1 (17 * y3 + 86) 11 : Int) ≠ 1 := h21
          refine e_Ok.run (t' := (41, [(0, (1, 0)), (3, (0, y3))], [(1, 0)], v1)) 1 rfl ?_
          refine e_Ok.getr (z := 9) rfl (el_o rfl) rfl rfl ((j8 0 2 (by unfold kNq; omega)).trans (Eq.trans (e_Has.eq hT rfl) (by omega))) (by omega) ?_
          refine e_Ok.run (t' := (45, [(0, (1, 0)), (3, (0, y3))], [(0, y3), (1, 9)], v1)) 1 rfl ?_
          refine e_Ok.aald (z := 17 * y3 + 86) rfl (el_o rfl) rfl (by omega) ((j8 9 y3 (by unfold kNq; omega)).trans (Eq.trans (e_Has.eq hT (k9 (by omega))) (by omega))) (by omega) ?_
          refine e_Ok.callV rfl (by omega) rfl (lA0 (a := y3) (by omega) (by omega)) rfl rfl (c_17_b (a := y3) j9 (by omega)) (fun r22 w23 h24 => ?_)
          obtain ⟨rfl, q25f, q25T, q25x⟩ := h24
          have f26 : e_fr kNq w w23 := e_fr.trans j8 (e_fr.mono q25f (fun c k q => by exact nq_kSt (by omega) q))
          show e_Ok 20 elay kcode eI (d + 1) 265 (49, [(0, (1, 0)), (3, (0, y3))], [], w23) _
          have fB : e_fr (fun c k => (c = 74 ∧ k = 1) ∨ c = 75 ∨ (154 ≤ c ∧ c ≤ 249 ∧ (c - 154) % 6 = 0 ∧ k = 10) ∨ (c = 17 * y3 + 86 ∧ (k = 11 ∨ k = 13 ∨ k = 18)) ∨ (17 * y3 + 97 ≤ c ∧ c ≤ 17 * y3 + 102 ∧ k = 8)) v1 w23 := fun c k g => q25f c k (by unfold kSt; omega)
          have hLb : lgK w23 := j11.fr q25f (by unfold kSt; omega) (fun k => by unfold kSt; omega)
          have evb : w23 74 1 = v1 74 1 := q25f _ _ (by unfold kSt; omega)
          have hub := kI.std j10 q25T (a := y3) (by omega) hLb fB q25x.1 q25x.2.2 q25x.2.1
          have hzb : ∀ i, 0 ≤ i → i < y3 + 1 → w23 (17 * i + 86) 11 = 0 := fun i g1 g2 => by
            by_cases e : i = y3
            · rw [e]; exact q25x.1
            · rw [fB _ _ (by omega)]; exact j12 i g1 (by omega)
          refine e_Ok.inc (z := y3 + 1) rfl rfl (by omega) (by omega) ?_
          show e_Ok 20 elay kcode eI (d + 1) 265 (52, [(3, (0, y3 + 1)), (0, (1, 0))], [], w23) _
          refine e_Ok.run (t' := (11, [(3, (0, y3 + 1)), (0, (1, 0))], [], w23)) 1 rfl ?_
          refine e_Ok.sub kAlk (e_sub_of rfl ?_) (ih7 (y3 + 1) w23 ⟨f26, q25T, hub, hLb, hzb, (by omega), ((fB _ _ (by omega)).trans j14), ((fB _ _ (by omega)).trans j15), ((fB _ _ (by omega)).trans j16), by omega⟩ (by omega))
          exact ⟨rfl, rfl, trivial⟩
        · replace h21 : (v1 (17 * y3 + 86) 11 : Int) = 1 := by have q : ¬ ((v1 (17 * y3 + 86) 11 : Int) ≠ 1) := h21; omega
          refine e_Ok.run (t' := (33, [(0, (1, 0)), (3, (0, y3))], [(1, 0)], v1)) 1 rfl ?_
          refine e_Ok.getr (z := 8) rfl (el_o rfl) rfl rfl ((j8 0 1 (by unfold kNq; omega)).trans (Eq.trans (e_Has.eq hT rfl) (by omega))) (by omega) ?_
          refine e_Ok.run (t' := (37, [(0, (1, 0)), (3, (0, y3))], [(0, y3), (1, 8)], v1)) 1 rfl ?_
          refine e_Ok.callV rfl (by omega) rfl rfl rfl rfl (c_41 (by omega) j9 (by omega) (by omega)) (fun r27 w28 h29 => ?_)
          obtain ⟨rfl, q30f, q30T, q30x⟩ := h29
          have f31 : e_fr kNq w w28 := e_fr.trans j8 (e_fr.mono q30f (fun c k q => by exact nq_kBk (by omega) q))
          show e_Ok 20 elay kcode eI (d + 1) 265 (40, [(0, (1, 0)), (3, (0, y3))], [], w28) _
          refine e_Ok.run (t' := (41, [(0, (1, 0)), (3, (0, y3))], [(1, 0)], w28)) 1 rfl ?_
          refine e_Ok.getr (z := 9) rfl (el_o rfl) rfl rfl ((q30f 0 2 (by unfold kBk; omega)).trans ((j8 0 2 (by unfold kNq; omega)).trans (Eq.trans (e_Has.eq hT rfl) (by omega)))) (by omega) ?_
          refine e_Ok.run (t' := (45, [(0, (1, 0)), (3, (0, y3))], [(0, y3), (1, 9)], w28)) 1 rfl ?_
          refine e_Ok.aald (z := 17 * y3 + 86) rfl (el_o rfl) rfl (by omega) ((q30f 9 y3 (by unfold kBk; omega)).trans ((j8 9 y3 (by unfold kNq; omega)).trans (Eq.trans (e_Has.eq hT (k9 (by omega))) (by omega)))) (by omega) ?_
          refine e_Ok.callV rfl (by omega) rfl (lA0 (a := y3) (by omega) (by omega)) rfl rfl (c_17_b (a := y3) q30T (by omega)) (fun r32 w33 h34 => ?_)
          obtain ⟨rfl, q35f, q35T, q35x⟩ := h34
          have f36 : e_fr kNq w w33 := e_fr.trans f31 (e_fr.mono q35f (fun c k q => by exact nq_kSt (by omega) q))
          show e_Ok 20 elay kcode eI (d + 1) 265 (49, [(0, (1, 0)), (3, (0, y3))], [], w33) _
          have fB : e_fr (fun c k => (c = 74 ∧ k = 1) ∨ c = 75 ∨ (154 ≤ c ∧ c ≤ 249 ∧ (c - 154) % 6 = 0 ∧ k = 10) ∨ (c = 17 * y3 + 86 ∧ (k = 11 ∨ k = 13 ∨ k = 18)) ∨ (17 * y3 + 97 ≤ c ∧ c ≤ 17 * y3 + 102 ∧ k = 8)) v1 w33 := fun c k g => by rw [q35f c k (by unfold kSt; omega)]; exact q30f c k (by unfold kBk; omega)
          have hLb : lgK w33 := (q30x.1.2 j11).fr q35f (by unfold kSt; omega) (fun k => by unfold kSt; omega)
          have evb : w33 74 1 = v1 74 1 + 1 := by rw [q35f _ _ (by unfold kSt; omega)]; exact q30x.1.1
          have hub := kI.std j10 q35T (a := y3) (by omega) hLb fB q35x.1 q35x.2.2 q35x.2.1
          have hzb : ∀ i, 0 ≤ i → i < y3 + 1 → w33 (17 * i + 86) 11 = 0 := fun i g1 g2 => by
            by_cases e : i = y3
            · rw [e]; exact q35x.1
            · rw [fB _ _ (by omega)]; exact j12 i g1 (by omega)
          refine e_Ok.inc (z := y3 + 1) rfl rfl (by omega) (by omega) ?_
          show e_Ok 20 elay kcode eI (d + 1) 265 (52, [(3, (0, y3 + 1)), (0, (1, 0))], [], w33) _
          refine e_Ok.run (t' := (11, [(3, (0, y3 + 1)), (0, (1, 0))], [], w33)) 1 rfl ?_
          refine e_Ok.sub kAlk (e_sub_of rfl ?_) (ih7 (y3 + 1) w33 ⟨f36, q35T, hub, hLb, hzb, (by omega), ((fB _ _ (by omega)).trans j14), ((fB _ _ (by omega)).trans j15), ((fB _ _ (by omega)).trans j16), by omega⟩ (by omega))
          exact ⟨rfl, rfl, trivial⟩
  refine e_Ok.sub kAlk (e_sub_of rfl ?_) (hL6 (4 + 1 : Int).toNat 0 w2 ⟨f5, q4T, hu0, hLt, (fun i g1 g2 => by omega), (by omega), pw0, (q4f _ _ (by unfold kCt; omega)), (q4f _ _ (by unfold kCt; omega)), by omega⟩ (by omega))
  exact ⟨rfl, rfl, trivial⟩
end
