noncomputable section
/-! the class: a joint is led by hand -/
section Kp
variable {w w' : eW} {OP OD CL : Int → Int → Int} {h t0 : Int}
theorem aR.hand {a j : Int} (ha : 0 ≤ a ∧ a ≤ 3) (hj : 0 ≤ j ∧ j ≤ 5) (hn : w (17 * a + 86) 8 ≤ 6) (hf : ∀ c k, dA a c k → ¬ (c = 17 * a + 88 ∨ c = 17 * a + 89) → ¬ (c = 17 * a + j + 97 ∧ k = 7) → ¬ (c = 17 * a + 86 ∧ k = 19) → w' c k = w c k) (hK : aK w' a) (hs : w (17 * a + 86) 11 = 0) (hv : j < w (17 * a + 86) 8 → w (17 * a + j + 97) 1 ≤ w' (17 * a + j + 97) 7 ∧ w' (17 * a + j + 97) 7 ≤ w (17 * a + j + 97) 2) (hm : w' (17 * a + 86) 19 ≠ 0) (q : aR w a) : aR w' a := by
  obtain ⟨q1, q2, q3, q4, q5, q6⟩ := q
  have e8 : w' (17 * a + 86) 8 = w (17 * a + 86) 8 := hf _ _ (by unfold dA; omega) (by omega) (by omega) (by omega)
  have e11 : w' (17 * a + 86) 11 = w (17 * a + 86) 11 := hf _ _ (by unfold dA; omega) (by omega) (by omega) (by omega)
  refine ⟨hK, q2.eq (fun c k g => hf c k (by unfold dA; omega) (by omega) (by omega) (by omega)), ?_, fun g => by omega, q5.eq (fun c k g => hf c k (by unfold dA; omega) (by omega) (by omega) (by omega)), ?_⟩
  · rw [e8, e11]
    intro i g1 g2
    have qi := q3 i g1 g2
    by_cases e : i = j
    · rw [hs] at qi ⊢
      have ek : ∀ k, 1 ≤ k → k ≤ 9 → k ≠ 7 → w' (17 * a + i + 97) k = w (17 * a + i + 97) k := fun k g3 g4 g5 => hf _ _ (by unfold dA; omega) (by omega) (by omega) (by omega)
      refine ⟨?_, ?_⟩
      · have := qi.1
        unfold jC at this ⊢
        rw [ek 1 (by omega) (by omega) (by omega), ek 2 (by omega) (by omega) (by omega), ek 5 (by omega) (by omega) (by omega), ek 6 (by omega) (by omega) (by omega)]
        exact this
      · have hs8 : w (17 * a + i + 97) 8 = 0 := qi.2.2.1 rfl
        have hvi := hv (by omega)
        rw [← e] at hvi
        unfold jM joOk
        rw [ek 1 (by omega) (by omega) (by omega), ek 2 (by omega) (by omega) (by omega), ek 8 (by omega) (by omega) (by omega), hs8]
        exact ⟨hvi, fun _ => rfl, fun g => absurd g (by decide), fun g => absurd g (by decide)⟩
    · exact jq.eq (fun k g3 g4 => hf _ _ (by unfold dA; omega) (by omega) (by omega) (by omega)) qi
  · have hp : ∀ c k, 269 ≤ c → c ≤ 271 → w' c k = w c k := fun c k g1 g2 => hf c k (by unfold dA; omega) (by omega) (by omega) (by omega)
    have e17 : w' (17 * a + 86) 17 = w (17 * a + 86) 17 := hf _ _ (by unfold dA; omega) (by omega) (by omega) (by omega)
    have e18 : w' (17 * a + 86) 18 = w (17 * a + 86) 18 := hf _ _ (by unfold dA; omega) (by omega) (by omega) (by omega)
    unfold aW at q6 ⊢
    rw [e8, e17, e18]
    exact ⟨fun g => (q6.1 g).eq hp, fun _ g => absurd g hm, fun g => by have := (q6.2.2 g).1; omega⟩
/-- a joint was led by hand, and ways are stale -/
theorem kI.hand {w1 w2 w3 : eW} {a j v : Int} (q : kI w OP OD CL h t0) (ha : 0 ≤ a ∧ a ≤ 3) (hj : 0 ≤ j ∧ j < w (17 * a + 86) 8) (hs : w (17 * a + 86) 11 = 0) (hv : w (17 * a + j + 97) 1 ≤ v ∧ v ≤ w (17 * a + j + 97) 2) (h1 : e_up w (17 * a + j + 97) 7 v = w1) (hT2 : e_Has kTy w2) (f2 : e_fr (kPl a) w1 w2) (hK : aK w2 a) (hT3 : e_Has kTy w3) (f3 : e_fr kMv w2 w3) (hm : ∀ i, 0 ≤ i → i ≤ 3 → w3 (17 * i + 86) 19 ≠ 0) : kI w3 OP OD CL h t0 := by
  have hn := (kn_joints q.1 ha).2
  have e : ∀ c k, ¬ (c = 17 * a + 86 ∧ k = 19) → e_up w2 (17 * a + 86) 19 1 c k = w2 c k := fun c k g => e_up_ne _ _ (by omega)
  have ew : ∀ c k, ¬ (c = 17 * a + 88 ∨ c = 17 * a + 89) → ¬ (c = 17 * a + j + 97 ∧ k = 7) → w2 c k = w c k := fun c k g1 g2 => by
    rw [f2 c k (by unfold kPl; omega), ← h1, e_up_ne _ _ (by omega)]
  have hTu : e_Has kTy (e_up w2 (17 * a + 86) 19 1) := e_Has.upr hT2 rfl (kA_19 (a := a) rfl ha) (by decide)
  have hA : aR (e_up w2 (17 * a + 86) 19 1) a := by
    refine (q.2.1 a ha.1 ha.2).hand ha (j := j) (by omega) hn (fun c k g1 g2 g3 g4 => by rw [e _ _ g4]; exact ew c k g2 g3) ?_ hs (fun _ => ?_) (by rw [e_up_eq]; decide)
    · exact hK.up rfl (by omega) (by omega) (by omega)
    · rw [e _ _ (by omega), f2 _ _ (by unfold kPl; omega), ← h1, e_up_eq]; exact hv
  have hcdn : ∀ b : Int, 0 ≤ b → b ≤ 3 → 17 * b + 86 = 86 ∨ 17 * b + 86 = 103 ∨ 17 * b + 86 = 120 ∨ 17 * b + 86 = 137 := fun b g1 g2 => by omega
  have Q1 : kI (e_up w2 (17 * a + 86) 19 1) OP OD CL h t0 := by
    refine kI.ar q hTu ha (fun c k g => ?_) ?_ hA (fun _ _ => ?_)
    · by_cases g4 : c = 17 * a + 86 ∧ k = 19
      · exact absurd (Or.inr (Or.inr (Or.inr (Or.inl ⟨g4.1, by omega⟩)))) g
      · rw [e _ _ g4]
        refine ew c k (fun g5 => g ?_) (fun g5 => g ?_)
        · exact Or.inr (Or.inr (Or.inr (Or.inr (Or.inl (by omega)))))
        · exact Or.inr (Or.inr (Or.inr (Or.inr (Or.inr (by omega)))))
    · refine q.lgk.fr (S := fun c k => (c = 17 * a + 86 ∧ k = 19) ∨ c = 17 * a + 88 ∨ c = 17 * a + 89 ∨ (c = 17 * a + j + 97 ∧ k = 7)) (fun c k g => ?_) (by omega) (fun k => by omega)
      rw [e _ _ (by omega)]; exact ew c k (by omega) (by omega)
    · rw [e _ _ (by omega), ew _ _ (by omega) (by omega)]; exact hs
  refine kI.stale Q1 hT3 (fun c k g => ?_) hm
  rw [f3 c k g, e _ _ (fun g2 => g (Or.inl ⟨by have := hcdn a ha.1 ha.2; omega, g2.2⟩))]
end Kp
theorem c_258 {d : Nat} (hd : 24 ≤ d) {w : eW} (hT : e_Has kTy w) {a j v : Int} (ga : 0 ≤ a ∧ a ≤ 3) (gj : 0 ≤ j ∧ j < w (17 * a + 86) 8) (gv : -2147483648 ≤ v ∧ v ≤ 2147483647) {OP OD CL : Int → Int → Int} {h t0 : Int} (q : kI w OP OD CL h t0) (hs : w (17 * a + 86) 11 = 0) (hv : w (17 * a + j + 97) 1 ≤ v ∧ v ≤ w (17 * a + j + 97) 2) : e_Ok 20 elay kcode eI d 258 (0, [(0, (1, 0)), (1, (0, a)), (2, (0, j)), (3, (0, v))], [], w) (fun r w' => ∃ z : Int, r = [(0, z)] ∧ e_Has kTy w' ∧ (e_fr kNw w w' ∧ w' 74 0 = w 74 0 ∧ w' 74 1 = w 74 1) ∧ kI w' OP OD CL h t0 ∧ aQ w w') := by
  obtain ⟨d, rfl⟩ : ∃ e, d = e + 1 := ⟨d - 1, by omega⟩
  have hjn := kn_joints hT (a := a) (by omega)
  refine e_Ok.run (t' := (1, [(0, (1, 0)), (1, (0, a)), (2, (0, j)), (3, (0, v))], [(1, 0)], w)) 1 rfl ?_
  refine e_Ok.getr (z := 9) rfl (el_o rfl) rfl rfl (Eq.trans (e_Has.eq hT rfl) (by omega)) (by omega) ?_
  refine e_Ok.run (t' := (5, [(0, (1, 0)), (1, (0, a)), (2, (0, j)), (3, (0, v))], [(0, a), (1, 9)], w)) 1 rfl ?_
  refine e_Ok.aald (z := 17 * a + 86) rfl (el_o rfl) rfl (by omega) (Eq.trans (e_Has.eq hT (k9 (by omega))) (by omega)) (by omega) ?_
  refine e_Ok.getr (z := 17 * a + 87) rfl (lA0 (a := a) (by omega) (by omega)) rfl rfl (Eq.trans (e_Has.eq hT (kA_0 (a := a) (by omega) (by omega))) (by omega)) (by omega) ?_
  refine e_Ok.run (t' := (10, [(0, (1, 0)), (1, (0, a)), (2, (0, j)), (3, (0, v))], [(0, j), (1, 17 * a + 87)], w)) 1 rfl ?_
  refine e_Ok.aald (z := 17 * a + j + 97) rfl (lA1 (a := a) (by omega) (by omega)) rfl (by omega) (Eq.trans (e_Has.eq hT (kA87 (a := a) (by omega) (by omega) (by omega))) (by omega)) (by omega) ?_
  have h1 := (e_Has.get hT (c := 17 * a + j + 97) (k := 7) (lo := (-2147483648)) (hi := 2147483647) (kJ_7 (a := a) (j := j) (by omega) (by omega) (by omega)) (by decide))
  refine e_Ok.getf (z := w (17 * a + j + 97) 7) rfl (lJ (a := a) (j := j) (by omega) (by omega) (by omega)) rfl rfl rfl (by omega) ?_
  refine e_Ok.run (t' := (19, [(4, (0, w (17 * a + j + 97) 7)), (0, (1, 0)), (1, (0, a)), (2, (0, j)), (3, (0, v))], [(0, w (17 * a + j + 97) 7), (0, v)], w)) 3 rfl ?_
  refine e_Ok.if2 rfl (fun h2 => ?_) (fun h2 => ?_)
  · replace h2 : (v : Int) = w (17 * a + j + 97) 7 := h2
    refine e_Ok.run (t' := (56, [(4, (0, w (17 * a + j + 97) 7)), (0, (1, 0)), (1, (0, a)), (2, (0, j)), (3, (0, v))], [(0, w (17 * a + j + 97) 7)], w)) 1 rfl ?_
    refine e_Ok.rets rfl rfl ?_
    exact ⟨_, rfl, hT, ⟨e_fr.refl w, rfl, rfl⟩, q, aQ.refl w⟩
  · replace h2 : (v : Int) ≠ w (17 * a + j + 97) 7 := by have q : ¬ ((v : Int) = w (17 * a + j + 97) 7) := h2; omega
    refine e_Ok.run (t' := (23, [(4, (0, w (17 * a + j + 97) 7)), (0, (1, 0)), (1, (0, a)), (2, (0, j)), (3, (0, v))], [(1, 0)], w)) 1 rfl ?_
    refine e_Ok.getr (z := 9) rfl (el_o rfl) rfl rfl (Eq.trans (e_Has.eq hT rfl) (by omega)) (by omega) ?_
    refine e_Ok.run (t' := (27, [(4, (0, w (17 * a + j + 97) 7)), (0, (1, 0)), (1, (0, a)), (2, (0, j)), (3, (0, v))], [(0, a), (1, 9)], w)) 1 rfl ?_
    refine e_Ok.aald (z := 17 * a + 86) rfl (el_o rfl) rfl (by omega) (Eq.trans (e_Has.eq hT (k9 (by omega))) (by omega)) (by omega) ?_
    refine e_Ok.getr (z := 17 * a + 87) rfl (lA0 (a := a) (by omega) (by omega)) rfl rfl (Eq.trans (e_Has.eq hT (kA_0 (a := a) (by omega) (by omega))) (by omega)) (by omega) ?_
    refine e_Ok.run (t' := (32, [(4, (0, w (17 * a + j + 97) 7)), (0, (1, 0)), (1, (0, a)), (2, (0, j)), (3, (0, v))], [(0, j), (1, 17 * a + 87)], w)) 1 rfl ?_
    refine e_Ok.aald (z := 17 * a + j + 97) rfl (lA1 (a := a) (by omega) (by omega)) rfl (by omega) (Eq.trans (e_Has.eq hT (kA87 (a := a) (by omega) (by omega) (by omega))) (by omega)) (by omega) ?_
    refine e_Ok.run (t' := (34, [(4, (0, w (17 * a + j + 97) 7)), (0, (1, 0)), (1, (0, a)), (2, (0, j)), (3, (0, v))], [(0, v), (1, 17 * a + j + 97)], w)) 1 rfl ?_
    refine e_Ok.putf rfl (lJ (a := a) (j := j) (by omega) (by omega) (by omega)) rfl rfl ?_
    generalize hw3 : e_up w (17 * a + j + 97) 7 v = w3
    have f4 : e_fr kNw w w3 := e_fr.up (e_fr.refl w) hw3 (by unfold kNw; omega)
    have hT5 : e_Has kTy w3 := e_Has.upr hT hw3 (kJ_7 (a := a) (j := j) (by omega) (by omega) (by omega)) (by omega)
    refine e_Ok.run (t' := (38, [(4, (0, w (17 * a + j + 97) 7)), (0, (1, 0)), (1, (0, a)), (2, (0, j)), (3, (0, v))], [(1, 0)], w3)) 1 rfl ?_
    refine e_Ok.getr (z := 9) rfl (el_o rfl) rfl rfl (by rw [← hw3]; exact (e_up_ne _ _ (Or.inr (by omega))).trans (Eq.trans (e_Has.eq hT rfl) (by omega))) (by omega) ?_
    refine e_Ok.run (t' := (42, [(4, (0, w (17 * a + j + 97) 7)), (0, (1, 0)), (1, (0, a)), (2, (0, j)), (3, (0, v))], [(0, a), (1, 9)], w3)) 1 rfl ?_
    refine e_Ok.aald (z := 17 * a + 86) rfl (el_o rfl) rfl (by omega) (by rw [← hw3]; exact (e_up_ne _ _ (Or.inl (by omega))).trans (Eq.trans (e_Has.eq hT (k9 (by omega))) (by omega))) (by omega) ?_
    refine e_Ok.callV rfl (by omega) rfl (lA0 (a := a) (by omega) (by omega)) rfl rfl (c_10_p (by omega) (a := a) hT5 (by omega) (by rw [← hw3, e_up_ne _ _ (by omega)]; exact (q.arm (a := a) (by omega) (by omega)).1.1 0 (by omega) (by omega)) (by rw [← hw3, e_up_ne _ _ (by omega)]; exact (q.arm (a := a) (by omega) (by omega)).1.2 0 (by omega) (by omega))) (fun r6 w7 h8 => ?_)
    obtain ⟨rfl, q9f, q9T, q9x, q9p⟩ := h8
    have f10 : e_fr kNw w w7 := e_fr.trans f4 (e_fr.mono q9f (fun c k q => by exact nw_kPl (by omega) q))
    show e_Ok 20 elay kcode eI (d + 1) 258 (46, [(4, (0, w (17 * a + j + 97) 7)), (0, (1, 0)), (1, (0, a)), (2, (0, j)), (3, (0, v))], [], w7) _
    refine e_Ok.run (t' := (47, [(4, (0, w (17 * a + j + 97) 7)), (0, (1, 0)), (1, (0, a)), (2, (0, j)), (3, (0, v))], [(1, 0)], w7)) 1 rfl ?_
    refine e_Ok.getr (z := 8) rfl (el_o rfl) rfl rfl ((q9f 0 1 (by unfold kPl; omega)).trans (by rw [← hw3]; exact (e_up_ne _ _ (Or.inr (by omega))).trans (Eq.trans (e_Has.eq hT rfl) (by omega)))) (by omega) ?_
    refine e_Ok.run (t' := (51, [(4, (0, w (17 * a + j + 97) 7)), (0, (1, 0)), (1, (0, a)), (2, (0, j)), (3, (0, v))], [(0, a), (1, 8)], w7)) 1 rfl ?_
    refine e_Ok.callV rfl (by omega) rfl rfl rfl rfl (c_39 q9T (by omega)) (fun r11 w12 h13 => ?_)
    obtain ⟨rfl, q14f, q14T, q14x⟩ := h13
    have f15 : e_fr kNw w w12 := e_fr.trans f10 (e_fr.mono q14f (fun c k q => by exact nw_kMv q))
    show e_Ok 20 elay kcode eI (d + 1) 258 (54, [(4, (0, w (17 * a + j + 97) 7)), (0, (1, 0)), (1, (0, a)), (2, (0, j)), (3, (0, v))], [], w12) _
    refine e_Ok.run (t' := (56, [(4, (0, w (17 * a + j + 97) 7)), (0, (1, 0)), (1, (0, a)), (2, (0, j)), (3, (0, v))], [(0, w (17 * a + j + 97) 7)], w12)) 1 rfl ?_
    refine e_Ok.rets rfl rfl ?_
    exact ⟨_, rfl, q14T, ⟨f15, by rw [q14f _ _ (by unfold kMv; omega), q9f _ _ (by unfold kPl; omega), ← hw3, e_up_ne _ _ (by omega)], by rw [q14f _ _ (by unfold kMv; omega), q9f _ _ (by unfold kPl; omega), ← hw3, e_up_ne _ _ (by omega)]⟩, kI.hand q (by omega) (by omega) hs (by omega) hw3 q9T q9f q9x q14T q14f q14x, aQ.trans (aQ.go ga (e_fr.trans (e_fr.up (e_fr.refl w) hw3 (by unfold kGo; omega)) (q9f.mono (fun c k q => by unfold kPl at q; unfold kGo; omega))) hT q9T (fun _ => q9p)) (aQ.q (q14f.mono (fun c k q => nq_kMv q)) q9T q14T)⟩
end
