noncomputable section
/-! the class: a move ends -/
theorem kHv_no (c k : Int) (h : kHv c k) : kTy c k = (1, 0) := by
  rcases h with ⟨rfl, -, -⟩ | ⟨rfl, h1, h2⟩
  · rfl
  · obtain rfl | rfl | rfl | rfl : k = 13 ∨ k = 14 ∨ k = 15 ∨ k = 16 := by omega
    all_goals rfl
theorem hm_kHv {c k : Int} (h : kHv c k) : kHm c k := by
  rcases h with ⟨rfl, -, -⟩ | ⟨rfl, h1, h2⟩
  · unfold kHm; simp
  · unfold kHm; simp [h1, h2]
theorem kTy.hk {w w' : eW} (hT : e_Has kTy w) (hw : e_hk w = w') : e_Has kTy w' := by rw [← hw]; exact hT.fr kHv_no (e_hk_fr w)
section Kr
variable {w w' : eW} {OP OD CL : Int → Int → Int} {h t0 : Int}
theorem kI.hk (q : kI w OP OD CL h t0) (hw : e_hk w = w') : kI w' OP OD CL h t0 := q.hm (kTy.hk q.1 hw) (by rw [← hw]; exact (e_hk_fr w).mono (fun c k g => hm_kHv g))
/-- the next move of a travel -/
theorem aR.further {a : Int} (ha : 0 ≤ a ∧ a ≤ 3) (hn : w (17 * a + 86) 8 ≤ 6) (hf : ∀ c k, dA a c k → ¬ kGf a c k → w' c k = w c k) (hs : ∀ i, 0 ≤ i → i < w (17 * a + 86) 8 → w (17 * a + i + 97) 8 = 0) (h1 : w' (17 * a + 86) 11 = 1) (h2 : kn1 (w' (17 * a + 86) 12)) (hg : ∀ j, 0 ≤ j → j < w (17 * a + 86) 8 → (w (17 * a + j + 97) 1 ≤ w' (17 * a + j + 97) 9 ∧ w' (17 * a + j + 97) 9 ≤ w (17 * a + j + 97) 2) ∧ kn1 (w' (17 * a + j + 97) 10)) (hy : 0 ≤ w (17 * a + 86) 17) (h18 : w' (17 * a + 86) 18 ≤ w 270 (w (17 * a + 86) 17)) (hp : yP w' a (w (17 * a + 86) 8) (w (17 * a + 86) 17) (w' (17 * a + 86) 18) (fun j => w' (17 * a + j + 97) 9)) (q : aR w a) : aR w' a := by
  obtain ⟨q1, q2, q3, q4, q5, q6⟩ := q
  have e8 : w' (17 * a + 86) 8 = w (17 * a + 86) 8 := hf _ _ (by unfold dA; omega) (by unfold kGf; omega)
  refine ⟨q1.eq (fun c k g => hf c k (by unfold dA; omega) (by unfold kGf; omega)), q2.eq (fun c k g => hf c k (by unfold dA; omega) (by unfold kGf; omega)), ?_, ?_, q5.eq (fun c k g => hf c k (by unfold dA; omega) (by unfold kGf; omega)), ?_⟩
  · rw [e8, h1]
    intro i g1 g2
    have qi := q3 i g1 g2
    have ek : ∀ k, 1 ≤ k → k ≤ 8 → w' (17 * a + i + 97) k = w (17 * a + i + 97) k := fun k g3 g4 => hf _ _ (by unfold dA; omega) (by unfold kGf; omega)
    refine ⟨?_, ?_⟩
    · have := qi.1
      unfold jC at this ⊢
      rw [ek 1 (by omega) (by omega), ek 2 (by omega) (by omega), ek 5 (by omega) (by omega), ek 6 (by omega) (by omega)]
      exact this
    · have hm := qi.2.1
      unfold jM joOk
      rw [ek 1 (by omega) (by omega), ek 2 (by omega) (by omega), ek 7 (by omega) (by omega), ek 8 (by omega) (by omega), hs i g1 g2]
      exact ⟨hm, fun g => absurd g (by decide), fun _ => ⟨(hg i g1 g2).1, fun _ g => absurd g (by decide), fun g => absurd g (by decide)⟩, fun g => absurd g (by decide)⟩
  · intro _
    rw [e8]
    exact ⟨h2, fun j g1 g2 => (hg j g1 g2).2⟩
  · have hp2 : ∀ c k, 269 ≤ c → c ≤ 271 → w' c k = w c k := fun c k g1 g2 => hf c k (by unfold dA; omega) (by unfold kGf; omega)
    have e17 : w' (17 * a + 86) 17 = w (17 * a + 86) 17 := hf _ _ (by unfold dA; omega) (by unfold kGf; omega)
    have e19 : w' (17 * a + 86) 19 = w (17 * a + 86) 19 := hf _ _ (by unfold dA; omega) (by unfold kGf; omega)
    unfold aW at q6 ⊢
    rw [e8, e17, e19, hp2 270 _ (by decide) (by decide)]
    exact ⟨fun g => (q6.1 g).eq hp2, fun g1 g2 => (q6.2.1 g1 g2).eq hp2 (fun j g1 g2 => ⟨hf _ _ (by unfold dA; omega) (by unfold kGf; omega), hf _ _ (by unfold dA; omega) (by unfold kGf; omega)⟩) (fun j g3 g4 => hf _ _ (by unfold dA; omega) (by unfold kGf; omega)), fun _ => ⟨h1, hy, h18, hp⟩⟩
theorem ah_kGf {a c k : Int} (g : kGf a c k) : kAh a c k := by
  unfold kGf at g
  rcases g with g | g
  · exact Or.inr (Or.inr (Or.inr (Or.inl ⟨g.1, by omega⟩)))
  · exact Or.inr (Or.inr (Or.inr (Or.inr (Or.inr ⟨g.1, g.2.1⟩))))
theorem ah_kSt {a c k : Int} (g : kSt a c k) : kAh a c k := by
  unfold kSt at g
  rcases g with g | g
  · exact Or.inr (Or.inr (Or.inr (Or.inl ⟨g.1, by omega⟩)))
  · exact Or.inr (Or.inr (Or.inr (Or.inr (Or.inr ⟨g.1, g.2.1⟩))))
theorem nq_kGf {a c k : Int} (ha : 0 ≤ a ∧ a ≤ 3) (q : kGf a c k) : kNq c k := by
  unfold kGf at q
  rcases q with q | q
  · exact Or.inr (Or.inr (Or.inr (Or.inr (Or.inr (Or.inr (Or.inr (Or.inr (Or.inr (Or.inr (Or.inr (Or.inr (Or.inr (Or.inl (by omega))))))))))))))
  · exact Or.inr (Or.inr (Or.inr (Or.inr (Or.inr (Or.inr (Or.inr (Or.inr (Or.inr (Or.inr (Or.inr (Or.inr (Or.inr (Or.inr (Or.inr (Or.inr ((by omega)))))))))))))))))
end Kr
set_option maxHeartbeats 4000000 in
theorem c_261 {d : Nat} (hd : 25 ≤ d) {w : eW} (hT : e_Has kTy w) {a : Int} (ga : 0 ≤ a ∧ a ≤ 3) {OP OD CL : Int → Int → Int} {h t0 : Int} (q : kI w OP OD CL h t0) (hst : w (17 * a + 86) 11 = 1) (hth : ∀ i, 0 ≤ i → i < w (17 * a + 86) 8 → w (17 * a + i + 97) 7 = w (17 * a + i + 97) 9 ∧ w (17 * a + i + 97) 8 = 0) (he : w 74 1 < 2147483647) : e_Ok 20 elay kcode eI d 261 (0, [(0, (1, 0)), (1, (0, a))], [], w) (fun r w' => r = [] ∧ e_Has kTy w' ∧ (e_fr kNq w w' ∧ w' 74 0 = w 74 0) ∧ kI w' OP OD CL h t0 ∧ w' 74 1 = w 74 1 + 1 ∧ ∀ i, 0 ≤ i → i ≤ 5 → w' (17 * a + i + 97) 11 = w (17 * a + i + 97) 11) := by
  obtain ⟨d, rfl⟩ : ∃ e, d = e + 1 := ⟨d - 1, by omega⟩
  have h74 := e_Has.get hT (c := 74) (k := 1) (lo := 0) (hi := 2147483647) rfl (by decide)
  have hjn := kn_joints hT (a := a) (by omega)
  have htk := ((q.arm (a := a) (by omega) (by omega)).2.2.2.1 (by omega)).1
  unfold kn1 at htk
  refine e_Ok.run (t' := (1, [(0, (1, 0)), (1, (0, a))], [(1, 0)], w)) 1 rfl ?_
  refine e_Ok.getr (z := 9) rfl (el_o rfl) rfl rfl (Eq.trans (e_Has.eq hT rfl) (by omega)) (by omega) ?_
  refine e_Ok.run (t' := (5, [(0, (1, 0)), (1, (0, a))], [(0, a), (1, 9)], w)) 1 rfl ?_
  refine e_Ok.aald (z := 17 * a + 86) rfl (el_o rfl) rfl (by omega) (Eq.trans (e_Has.eq hT (k9 (by omega))) (by omega)) (by omega) ?_
  refine e_Ok.run (t' := (8, [(2, (1, 17 * a + 86)), (0, (1, 0)), (1, (0, a))], [(1, 0)], w)) 2 rfl ?_
  refine e_Ok.getr (z := 74) rfl (el_o rfl) rfl rfl (Eq.trans (e_Has.eq hT rfl) (by omega)) (by omega) ?_
  refine e_Ok.run (t' := (15, [(2, (1, 17 * a + 86)), (0, (1, 0)), (1, (0, a))], [(1, 17 * a + 86), (0, a), (0, 8), (1, 74)], w)) 3 rfl ?_
  refine e_Ok.getf (z := w (17 * a + 86) 12) rfl (lA0 (a := a) (by omega) (by omega)) rfl rfl rfl (by omega) ?_
  refine e_Ok.callV rfl (by omega) rfl rfl rfl rfl (c_27 hT (by omega) (by omega) (by omega) (by omega)) (fun r1 w2 h3 => ?_)
  obtain ⟨rfl, q4f, q4T, q4x⟩ := h3
  have f5 : e_fr kNq w w2 := e_fr.trans (e_fr.refl w) (e_fr.mono q4f (fun c k q => by exact nq_kLg q))
  have Q6 := kI.lg q q4T (e_fr.mono q4f (fun c k g => lh_kLg g)) (q4x.2 q.lgk)
  show e_Ok 20 elay kcode eI (d + 1) 261 (21, [(2, (1, 17 * a + 86)), (0, (1, 0)), (1, (0, a))], [], w2) _
  have hT1 := (Q6.arm (a := a) (by omega) (by omega)).2.2.2.1 (by rw [q4f _ _ (by unfold kLg; omega)]; omega)
  refine e_Ok.jp rfl ⟨rfl, 17 * a + 86, rfl, q4T, a, ga, rfl, hT1.1, hT1.2⟩ (fun w7 hw7 => ?_)
  have Q2 := kI.hk Q6 hw7
  have f2 : e_fr kHv w2 w7 := by rw [← hw7]; exact e_hk_fr _
  have f8 : e_fr kNq w w7 := e_fr.trans f5 (e_fr.mono f2 (fun c k q => by exact nq_kHv q))
  have e2 : ∀ c k, ¬ kLg c k → ¬ kHv c k → w7 c k = w c k := fun c k g1 g2 => (f2 c k g2).trans (q4f c k g1)
  refine e_Ok.run (t' := (52, [(2, (1, 17 * a + 86)), (0, (1, 0)), (1, (0, a))], [(1, 0)], w7)) 1 rfl ?_
  refine e_Ok.getr (z := 262) rfl (el_o rfl) rfl rfl ((f2 0 7 (by unfold kHv; omega)).trans ((q4f 0 7 (by unfold kLg; omega)).trans (Eq.trans (e_Has.eq hT rfl) (by omega)))) (by omega) ?_
  refine e_Ok.run (t' := (56, [(2, (1, 17 * a + 86)), (0, (1, 0)), (1, (0, a))], [(1, 17 * a + 86), (1, 262)], w7)) 1 rfl ?_
  have hA2 := Q2.arm (a := a) (by omega) (by omega)
  have hb : ∀ c k, (c = 17 * a + 86 ∨ (17 * a + 97 ≤ c ∧ c ≤ 17 * a + 102) ∨ (269 ≤ c ∧ c ≤ 271)) → w7 c k = w c k := fun c k g => e2 c k (by unfold kLg; omega) (by unfold kHv; omega)
  have e11 : w7 (17 * a + 86) 11 = 1 := by rw [hb _ _ (by omega)]; exact hst
  have e8 : w7 (17 * a + 86) 8 = w (17 * a + 86) 8 := hb _ _ (by omega)
  have hth2 : ∀ i, 0 ≤ i → i < w7 (17 * a + 86) 8 → w7 (17 * a + i + 97) 7 = w7 (17 * a + i + 97) 9 ∧ w7 (17 * a + i + 97) 8 = 0 := fun i g1 g2 => by rw [hb _ 7 (by omega), hb _ 9 (by omega), hb _ 8 (by omega)]; exact hth i g1 (by omega)
  refine e_Ok.callV rfl (by omega) rfl rfl rfl rfl (c_108 (by omega) (a := a) Q2.1 (by omega) rfl rfl hA2.2.2.2.2.2.1 (fun g => by have g2 := hA2.2.2.2.2.2.2.2 g; exact ⟨g2.2.1, g2.2.2.1, g2.2.2.2.eq (fun _ _ _ _ => rfl) (fun _ _ _ => ⟨rfl, rfl⟩) (fun j g3 g4 => (hth2 j g3 g4).1)⟩) (fun j g1 g2 => by have g3 := hA2.2.2.1 j g1 g2; have g4 := g3.1.1; have g5 := g3.2.1; omega)) (fun r9 w10 h11 => ?_)
  obtain ⟨z12, rfl, q13f, q13T, q13x⟩ := h11
  have f14 : e_fr kNq w w10 := e_fr.trans f8 (e_fr.mono q13f (fun c k q => by exact nq_kGf (by omega) q))
  have hz : z12 = 0 ∨ z12 = 1 := by rcases q13x with g | g; exact Or.inl g.1; exact Or.inr g.1
  show e_Ok 20 elay kcode eI (d + 1) 261 (59, [(2, (1, 17 * a + 86)), (0, (1, 0)), (1, (0, a))], [(0, z12)], w10) _
  refine e_Ok.if1 rfl (fun h15 => ?_) (fun h15 => ?_)
  · replace h15 : (z12 : Int) ≠ 0 := h15
    refine e_Ok.rets rfl rfl ?_
    obtain ⟨-, k1, k2, k3, k4, k5, k6⟩ : z12 = 1 ∧ _ := by rcases q13x with g | g; exact absurd g.1 (by omega); exact g
    have hA3 := hA2.further (w' := w10) (by omega) (kn_joints Q2.1 (by omega)).2 (fun c k g1 g2 => q13f c k g2) (fun i g1 g2 => (hth2 i g1 g2).2) k1.1 k1.2 k2 k3 k5 k6
    have Q4 := kI.ar Q2 q13T (by omega) (q13f.mono (fun c k g => ah_kGf g)) (Q2.lgk.fr q13f (by unfold kGf; omega) (fun k => by unfold kGf; omega)) hA3 (fun g g9 => by have := Q2.pw g a (by omega) (by omega) g9; omega)
    exact ⟨rfl, q13T, ⟨f14, by rw [q13f _ _ (by unfold kGf; omega), f2 _ _ (by unfold kHv; omega)]; exact q4f _ _ (by unfold kLg; omega)⟩, Q4, by rw [q13f _ _ (by unfold kGf; omega), f2 _ _ (by unfold kHv; omega)]; exact q4x.1, fun i g1 g2 => by rw [q13f _ _ (by unfold kGf; omega), f2 _ _ (by unfold kHv; omega)]; exact q4f _ _ (by unfold kLg; omega)⟩
  · replace h15 : (z12 : Int) = 0 := by have q : ¬ ((z12 : Int) ≠ 0) := h15; omega
    have hw3 : w10 = w7 := by rcases q13x with g | g; exact g.2.1; exact absurd g.1 (by omega)
    have Q3 : kI w10 OP OD CL h t0 := by rw [hw3]; exact Q2
    refine e_Ok.run (t' := (63, [(2, (1, 17 * a + 86)), (0, (1, 0)), (1, (0, a))], [(1, 17 * a + 86)], w10)) 1 rfl ?_
    refine e_Ok.callV rfl (by omega) rfl (lA0 (a := a) (by omega) (by omega)) rfl rfl (c_17_b (a := a) q13T (by omega)) (fun r16 w17 h18 => ?_)
    obtain ⟨rfl, q19f, q19T, q19x⟩ := h18
    have f20 : e_fr kNq w w17 := e_fr.trans f14 (e_fr.mono q19f (fun c k q => by exact nq_kSt (by omega) q))
    show e_Ok 20 elay kcode eI (d + 1) 261 (66, [(2, (1, 17 * a + 86)), (0, (1, 0)), (1, (0, a))], [], w17) _
    refine e_Ok.rets rfl rfl ?_
    have hA4 := (Q3.arm (a := a) (by omega) (by omega)).stand (w' := w17) (by omega) (kn_joints Q3.1 (by omega)).2 (fun c k g1 g2 g3 => q19f c k (by unfold dA at g1; unfold kSt; omega)) q19x.1 q19x.2.2 q19x.2.1
    have Q4 := kI.ar Q3 q19T (by omega) (q19f.mono (fun c k g => ah_kSt g)) (Q3.lgk.fr q19f (by unfold kSt; omega) (fun k => by unfold kSt; omega)) hA4 (fun _ _ => q19x.1)
    exact ⟨rfl, q19T, ⟨f20, by rw [q19f _ _ (by unfold kSt; omega), hw3, f2 _ _ (by unfold kHv; omega)]; exact q4f _ _ (by unfold kLg; omega)⟩, Q4, by rw [q19f _ _ (by unfold kSt; omega), hw3, f2 _ _ (by unfold kHv; omega)]; exact q4x.1, fun i g1 g2 => by rw [q19f _ _ (by unfold kSt; omega), hw3, f2 _ _ (by unfold kHv; omega)]; exact q4f _ _ (by unfold kLg; omega)⟩
end
