noncomputable section
/-! the class: a row of the book is carried out -/
section Ky
variable {w w' : eW} {OP OD CL : Int → Int → Int} {h t0 : Int}
/-- a row of the book may be carried out -/
def rwC (w : eW) (x a b c : Int) : Prop :=
  (0 ≤ x ∧ x ≤ 11) ∧ (x = 0 → (0 ≤ a ∧ a ≤ 3) ∧ 0 ≤ b ∧ b < w (w (17 * a + 86) 7) 1) ∧ (x = 2 ∨ x = 3 → 0 ≤ a ∧ a ≤ 63) ∧ (x = 4 → 0 ≤ a ∧ a ≤ 7) ∧ (x = 6 → -1 ≤ a ∧ a ≤ 3) ∧ (x = 7 → 0 ≤ a ∧ a ≤ 3) ∧
  (x = 8 → (0 ≤ a ∧ a ≤ 3) ∧ (0 ≤ b ∧ b < w (17 * a + 86) 8) ∧ w (17 * a + 86) 11 = 0 ∧ w (17 * a + b + 97) 1 ≤ c ∧ c ≤ w (17 * a + b + 97) 2) ∧ (x = 9 → 0 ≤ a ∧ a ≤ 5) ∧
  (x = 10 → (0 ≤ a ∧ a ≤ 3) ∧ (0 ≤ b ∧ b ≤ 59) ∧ w (17 * a + 86) 11 = 0 ∧ yD w (w (17 * a + 86) 8) b ∧ yP w a (w (17 * a + 86) 8) b 0 (fun j => w (17 * a + j + 97) 7)) ∧
  (x = 11 → (0 ≤ a ∧ a ≤ 3) ∧ 0 ≤ w (17 * a + 86) 17 ∧ w (17 * a + 86) 11 = 0 ∧ w (17 * a + 86) 19 = 0 ∧ ¬ w 74 3 = 0)
theorem aR.give {a y : Int} (ha : 0 ≤ a ∧ a ≤ 3) (hn : w (17 * a + 86) 8 ≤ 6) (hf : ∀ c k, dA a c k → ¬ (c = 17 * a + 86 ∧ (k = 17 ∨ k = 19)) → w' c k = w c k) (hs : w (17 * a + 86) 11 = 0) (h17 : w' (17 * a + 86) 17 = y) (hy : yD w (w (17 * a + 86) 8) y) (hp : yP w a (w (17 * a + 86) 8) y 0 (fun j => w (17 * a + j + 97) 7)) (q : aR w a) : aR w' a := by
  obtain ⟨q1, q2, q3, q4, q5, q6⟩ := q
  have e8 : w' (17 * a + 86) 8 = w (17 * a + 86) 8 := hf _ _ (by unfold dA; omega) (by omega)
  have e11 : w' (17 * a + 86) 11 = w (17 * a + 86) 11 := hf _ _ (by unfold dA; omega) (by omega)
  have e18 : w' (17 * a + 86) 18 = w (17 * a + 86) 18 := hf _ _ (by unfold dA; omega) (by omega)
  have hp' : ∀ c k, 269 ≤ c → c ≤ 271 → w' c k = w c k := fun c k g1 g2 => hf c k (by unfold dA; omega) (by omega)
  refine ⟨q1.eq (fun c k g => hf c k (by unfold dA; omega) (by omega)), q2.eq (fun c k g => hf c k (by unfold dA; omega) (by omega)), ?_, q4.eq hn (fun c k g => hf c k (by unfold dA; omega) (by omega)), q5.eq (fun c k g => hf c k (by unfold dA; omega) (by omega)), ?_⟩
  · rw [e8, e11]
    exact q3.eq hn (fun c k g1 g2 g3 g4 => hf c k (by unfold dA; omega) (by omega))
  · unfold aW at q6 ⊢
    rw [e8, h17, e18]
    refine ⟨fun _ => hy.eq hp', fun _ _ => hp.eq hp' (fun j g1 g2 => ⟨hf _ _ (by unfold dA; omega) (by omega), hf _ _ (by unfold dA; omega) (by omega)⟩) (fun j g1 g2 => hf _ _ (by unfold dA; omega) (by omega)), fun g => ?_⟩
    have := (q6.2.2 g).1
    omega
theorem kI.give {w1 : eW} {a y : Int} (q : kI w OP OD CL h t0) (hT : e_Has kTy w') (ha : 0 ≤ a ∧ a ≤ 3) (hs : w (17 * a + 86) 11 = 0) (hy : yD w (w (17 * a + 86) 8) y) (hp : yP w a (w (17 * a + 86) 8) y 0 (fun j => w (17 * a + j + 97) 7)) (h1 : e_up w (17 * a + 86) 17 y = w1) (h2 : e_up w1 (17 * a + 86) 19 0 = w') : kI w' OP OD CL h t0 := by
  have e : ∀ c k, ¬ (c = 17 * a + 86 ∧ (k = 17 ∨ k = 19)) → w' c k = w c k := fun c k g => by
    rw [← h2, e_up_ne _ _ (by omega), ← h1, e_up_ne _ _ (by omega)]
  have h17 : w' (17 * a + 86) 17 = y := by rw [← h2, e_up_ne _ _ (by omega), ← h1, e_up_eq]
  refine kI.ar q hT ha (fun c k g => e c k (fun g2 => g (Or.inr (Or.inr (Or.inr (Or.inl ⟨g2.1, by omega⟩)))))) ?_ ((q.arm ha.1 ha.2).give ha (kn_joints q.1 ha).2 (fun c k _ g => e c k g) hs h17 hy hp) (fun _ _ => by rw [e _ _ (by omega)]; exact hs)
  exact q.lgk.fr (S := fun c k => c = 17 * a + 86 ∧ (k = 17 ∨ k = 19)) (fun c k g => e c k g) (by omega) (fun k => by omega)
theorem hm_272 {k : Int} : kHm 272 k := by unfold kHm; simp
end Ky
theorem c_97 {d : Nat} (hd : 23 ≤ d) {w : eW} (hT : e_Has kTy w) {a y : Int} (ga : 0 ≤ a ∧ a ≤ 3) (gy : 0 ≤ y ∧ y ≤ 59) {OP OD CL : Int → Int → Int} {h t0 : Int} (q : kI w OP OD CL h t0) (hs : w (17 * a + 86) 11 = 0) (hy : yD w (w (17 * a + 86) 8) y) (hp : yP w a (w (17 * a + 86) 8) y 0 (fun j => w (17 * a + j + 97) 7)) : e_Ok 20 elay kcode eI d 97 (0, [(0, (1, 262)), (1, (1, 17 * a + 86)), (2, (0, y))], [], w) (fun r w' => ∃ z : Int, r = [(0, z)] ∧ e_Has kTy w' ∧ (e_fr kNq w w' ∧ w' 74 0 = w 74 0 ∧ w' 74 1 = w 74 1) ∧ kI w' OP OD CL h t0) := by
  obtain ⟨d, rfl⟩ : ∃ e, d = e + 1 := ⟨d - 1, by omega⟩
  refine e_Ok.run (t' := (2, [(0, (1, 262)), (1, (1, 17 * a + 86)), (2, (0, y))], [(0, y), (1, 17 * a + 86)], w)) 2 rfl ?_
  refine e_Ok.putf rfl (lA0 (a := a) (by omega) (by omega)) rfl rfl ?_
  generalize hw1 : e_up w (17 * a + 86) 17 y = w1
  have f2 : e_fr kNq w w1 := e_fr.up (e_fr.refl w) hw1 (by unfold kNq; omega)
  have hT3 : e_Has kTy w1 := e_Has.upr hT hw1 (kA_17 (a := a) (by omega) (by omega)) (by omega)
  refine e_Ok.run (t' := (7, [(0, (1, 262)), (1, (1, 17 * a + 86)), (2, (0, y))], [(0, 0), (1, 17 * a + 86)], w1)) 2 rfl ?_
  refine e_Ok.putf rfl (lA0 (a := a) (by omega) (by omega)) rfl rfl ?_
  generalize hw4 : e_up w1 (17 * a + 86) 19 0 = w4
  have f5 : e_fr kNq w w4 := e_fr.up f2 hw4 (by unfold kNq; omega)
  have hT6 : e_Has kTy w4 := e_Has.upr hT3 hw4 (kA_19 (a := a) (by omega) (by omega)) (by omega)
  refine e_Ok.run (t' := (12, [(0, (1, 262)), (1, (1, 17 * a + 86)), (2, (0, y))], [(0, y), (1, 262)], w4)) 2 rfl ?_
  refine e_Ok.callV rfl (by omega) rfl rfl rfl rfl (c_95 (by omega) (m := w (17 * a + 86) 8) hT6 (by omega) (fun g => hy.eq (fun c k g1 g2 => by rw [← hw4, e_up_ne _ _ (by omega), ← hw1, e_up_ne _ _ (by omega)]))) (fun r7 w8 h9 => ?_)
  obtain ⟨z10, rfl, rfl, q11r, q11x⟩ := h9
  show e_Ok 20 elay kcode eI (d + 1) 97 (15, [(0, (1, 262)), (1, (1, 17 * a + 86)), (2, (0, y))], [(0, z10)], w4) _
  refine e_Ok.rets rfl rfl ?_
  exact ⟨_, rfl, hT6, ⟨f5, (by rw [← hw4]; exact (e_up_ne _ _ (Or.inr (by omega))).trans (by rw [← hw1]; exact (e_up_ne _ _ (Or.inr (by omega))).trans rfl)), (by rw [← hw4]; exact (e_up_ne _ _ (Or.inr (by omega))).trans (by rw [← hw1]; exact (e_up_ne _ _ (Or.inr (by omega))).trans rfl))⟩, kI.give q hT6 ga hs hy hp hw1 hw4⟩
set_option maxHeartbeats 4000000 in
theorem c_256 {d : Nat} (hd : 27 ≤ d) {w : eW} (hT : e_Has kTy w) {x a b c : Int} (ga : -2147483648 ≤ a ∧ a ≤ 2147483647) (gb : -2147483648 ≤ b ∧ b ≤ 2147483647) (gc : -2147483648 ≤ c ∧ c ≤ 2147483647) {OP OD CL : Int → Int → Int} {h t0 : Int} (q : kI w OP OD CL h t0) (h0 : 0 ≤ h) (he : w 74 1 ≤ 2147000000) (hR : rwC w x a b c) : e_Ok 20 elay kcode eI d 256 (0, [(0, (1, 0)), (1, (0, x)), (2, (0, a)), (3, (0, b)), (4, (0, c))], [], w) (fun r w' => ∃ z : Int, r = [(0, z)] ∧ e_Has kTy w' ∧ (e_fr kNw w w' ∧ w' 74 0 = w 74 0) ∧ kI w' OP OD CL h t0 ∧ w 74 1 ≤ w' 74 1 ∧ w' 74 1 ≤ w 74 1 + 16 ∧ aQ w w') := by
  obtain ⟨d, rfl⟩ : ∃ e, d = e + 1 := ⟨d - 1, by omega⟩
  have h74 := e_Has.get hT (c := 74) (k := 1) (lo := 0) (hi := 2147483647) rfl (by decide)
  have hx := hR.1
  refine e_Ok.run (t' := (1, [(0, (1, 0)), (1, (0, x)), (2, (0, a)), (3, (0, b)), (4, (0, c))], [(0, x)], w)) 1 rfl ?_
  have hs2 : ∀ x : Int, 0 ≤ x ∧ x ≤ 11 → (x = 0) ∨ (x = 1) ∨ (x = 2) ∨ (x = 3) ∨ (x = 4) ∨ (x = 5) ∨ (x = 6) ∨ (x = 7) ∨ (x = 8) ∨ (x = 9) ∨ (x = 10) ∨ (x = 11) := fun x h => by omega
  obtain h1 | h1 | h1 | h1 | h1 | h1 | h1 | h1 | h1 | h1 | h1 | h1 := hs2 (x) (by omega)
  · refine e_Ok.swk (tg := 64) rfl (by rw [h1]; rfl) ?_
    have hr := hR.2.1 (by omega)
    refine e_Ok.run (t' := (65, [(0, (1, 0)), (1, (0, x)), (2, (0, a)), (3, (0, b)), (4, (0, c))], [(1, 0)], w)) 1 rfl ?_
    refine e_Ok.getr (z := 8) rfl (el_o rfl) rfl rfl (Eq.trans (e_Has.eq hT rfl) (by omega)) (by omega) ?_
    refine e_Ok.run (t' := (70, [(0, (1, 0)), (1, (0, x)), (2, (0, a)), (3, (0, b)), (4, (0, c))], [(0, b), (0, a), (1, 8)], w)) 2 rfl ?_
    refine e_Ok.callV rfl (by omega) rfl rfl rfl rfl (c_37 (by omega) hT hr.1 q h0 hr.2) (fun r3 w4 h5 => ?_)
    obtain ⟨z6, rfl, q7T, q7x, q7r, q7f⟩ := h5
    have q7F : e_fr kNq w w4 ∧ w4 74 0 = w 74 0 ∧ w4 74 1 = w 74 1 := by
      rcases q7f with g | g
      · rw [g.2]; exact ⟨e_fr.refl w, rfl, rfl⟩
      · exact ⟨g.2.2.mono (fun c k q => nq_kBg (by omega) q), g.2.2 _ _ (by unfold kBg; omega), g.2.2 _ _ (by unfold kBg; omega)⟩
    clear q7f
    show e_Ok 20 elay kcode eI (d + 1) 256 (73, [(0, (1, 0)), (1, (0, x)), (2, (0, a)), (3, (0, b)), (4, (0, c))], [(0, z6)], w4) _
    refine e_Ok.rets rfl rfl ?_
    exact ⟨_, rfl, q7T, ⟨(q7F.1.mono (fun c k q => nq_nw q)), q7F.2.1⟩, q7x, by have g := q7F.2.2; omega, by have g := q7F.2.2; omega, aQ.q q7F.1 hT q7T⟩
  · refine e_Ok.swk (tg := 203) rfl (by rw [h1]; rfl) ?_
    refine e_Ok.run (t' := (204, [(0, (1, 0)), (1, (0, x)), (2, (0, a)), (3, (0, b)), (4, (0, c))], [(0, 0)], w)) 1 rfl ?_
    refine e_Ok.rets rfl rfl ?_
    exact ⟨_, rfl, hT, ⟨e_fr.refl w, rfl⟩, q, by omega, by omega, aQ.refl w⟩
  · refine e_Ok.swk (tg := 74) rfl (by rw [h1]; rfl) ?_
    have hr := hR.2.2.1 (by omega)
    refine e_Ok.run (t' := (75, [(0, (1, 0)), (1, (0, x)), (2, (0, a)), (3, (0, b)), (4, (0, c))], [(1, 0)], w)) 1 rfl ?_
    refine e_Ok.getr (z := 10) rfl (el_o rfl) rfl rfl (Eq.trans (e_Has.eq hT rfl) (by omega)) (by omega) ?_
    refine e_Ok.run (t' := (80, [(0, (1, 0)), (1, (0, x)), (2, (0, a)), (3, (0, b)), (4, (0, c))], [(0, b), (0, a), (1, 10)], w)) 2 rfl ?_
    refine e_Ok.callV rfl (by omega) rfl rfl rfl rfl (c_113 (by omega) hT hr gb q.pf) (fun r8 w9 h10 => ?_)
    obtain ⟨z11, rfl, q12f, q12T, q12r, q12x⟩ := h10
    have q12Q := kI.po q q12T (e_fr.mono q12f (fun c k g => ph_kPo g)) q12x
    show e_Ok 20 elay kcode eI (d + 1) 256 (83, [(0, (1, 0)), (1, (0, x)), (2, (0, a)), (3, (0, b)), (4, (0, c))], [(0, z11)], w9) _
    refine e_Ok.rets rfl rfl ?_
    exact ⟨_, rfl, q12T, ⟨(q12f.mono (fun c k q => nw_kPo q)), (q12f _ _ (by unfold kPo; omega))⟩, q12Q, by have g := q12f 74 1 (by unfold kPo; omega); omega, by have g := q12f 74 1 (by unfold kPo; omega); omega, aQ.q (q12f.mono (fun c k q => nq_kPo q)) hT q12T⟩
  · refine e_Ok.swk (tg := 84) rfl (by rw [h1]; rfl) ?_
    have hr := hR.2.2.1 (by omega)
    refine e_Ok.run (t' := (85, [(0, (1, 0)), (1, (0, x)), (2, (0, a)), (3, (0, b)), (4, (0, c))], [(1, 0)], w)) 1 rfl ?_
    refine e_Ok.getr (z := 10) rfl (el_o rfl) rfl rfl (Eq.trans (e_Has.eq hT rfl) (by omega)) (by omega) ?_
    refine e_Ok.run (t' := (92, [(0, (1, 0)), (1, (0, x)), (2, (0, a)), (3, (0, b)), (4, (0, c))], [(0, c), (0, b), (0, a), (1, 10)], w)) 3 rfl ?_
    have hJ15 : ∀ m14 : Int, 0 ≤ m14 ∧ m14 ≤ 1 → e_Ok 20 elay kcode eI (d + 1) 256 (100, [(0, (1, 0)), (1, (0, x)), (2, (0, a)), (3, (0, b)), (4, (0, c))], [(0, m14), (0, b), (0, a), (1, 10)], w) (fun r w' => ∃ z : Int, r = [(0, z)] ∧ e_Has kTy w' ∧ (e_fr kNw w w' ∧ w' 74 0 = w 74 0) ∧ kI w' OP OD CL h t0 ∧ w 74 1 ≤ w' 74 1 ∧ w' 74 1 ≤ w 74 1 + 16 ∧ aQ w w') := by
      intro m14 m14r
      refine e_Ok.callV rfl (by omega) rfl rfl rfl rfl (c_114 (by omega) hT hr gb (by omega) q.pf) (fun r16 w17 h18 => ?_)
      obtain ⟨z19, rfl, q20f, q20T, q20r, q20x⟩ := h18
      have q20Q := kI.po q q20T (e_fr.mono q20f (fun c k g => ph_kPo g)) q20x
      show e_Ok 20 elay kcode eI (d + 1) 256 (103, [(0, (1, 0)), (1, (0, x)), (2, (0, a)), (3, (0, b)), (4, (0, c))], [(0, z19)], w17) _
      refine e_Ok.rets rfl rfl ?_
      exact ⟨_, rfl, q20T, ⟨(q20f.mono (fun c k q => nw_kPo q)), (q20f _ _ (by unfold kPo; omega))⟩, q20Q, by have g := q20f 74 1 (by unfold kPo; omega); omega, by have g := q20f 74 1 (by unfold kPo; omega); omega, aQ.q (q20f.mono (fun c k q => nq_kPo q)) hT q20T⟩
    refine e_Ok.if1 rfl (fun h13 => ?_) (fun h13 => ?_)
    · exact e_Ok.run 1 rfl (hJ15 0 (by omega))
    · exact e_Ok.run 2 rfl (hJ15 1 (by omega))
  · refine e_Ok.swk (tg := 104) rfl (by rw [h1]; rfl) ?_
    have hr := hR.2.2.2.1 (by omega)
    refine e_Ok.run (t' := (105, [(0, (1, 0)), (1, (0, x)), (2, (0, a)), (3, (0, b)), (4, (0, c))], [(1, 0)], w)) 1 rfl ?_
    refine e_Ok.getr (z := 74) rfl (el_o rfl) rfl rfl (Eq.trans (e_Has.eq hT rfl) (by omega)) (by omega) ?_
    refine e_Ok.run (t' := (110, [(0, (1, 0)), (1, (0, x)), (2, (0, a)), (3, (0, b)), (4, (0, c))], [(0, b), (0, a), (1, 74)], w)) 2 rfl ?_
    have hJ23 : ∀ m22 : Int, 0 ≤ m22 ∧ m22 ≤ 1 → e_Ok 20 elay kcode eI (d + 1) 256 (118, [(0, (1, 0)), (1, (0, x)), (2, (0, a)), (3, (0, b)), (4, (0, c))], [(0, m22), (0, a), (1, 74)], w) (fun r w' => ∃ z : Int, r = [(0, z)] ∧ e_Has kTy w' ∧ (e_fr kNw w w' ∧ w' 74 0 = w 74 0) ∧ kI w' OP OD CL h t0 ∧ w 74 1 ≤ w' 74 1 ∧ w' 74 1 ≤ w 74 1 + 16 ∧ aQ w w') := by
      intro m22 m22r
      refine e_Ok.run (t' := (120, [(0, (1, 0)), (1, (0, x)), (2, (0, a)), (3, (0, b)), (4, (0, c))], [(0, c), (0, m22), (0, a), (1, 74)], w)) 1 rfl ?_
      have hJ26 : ∀ m25 : Int, 0 ≤ m25 ∧ m25 ≤ 1 → e_Ok 20 elay kcode eI (d + 1) 256 (128, [(0, (1, 0)), (1, (0, x)), (2, (0, a)), (3, (0, b)), (4, (0, c))], [(0, m25), (0, m22), (0, a), (1, 74)], w) (fun r w' => ∃ z : Int, r = [(0, z)] ∧ e_Has kTy w' ∧ (e_fr kNw w w' ∧ w' 74 0 = w 74 0) ∧ kI w' OP OD CL h t0 ∧ w 74 1 ≤ w' 74 1 ∧ w' 74 1 ≤ w 74 1 + 16 ∧ aQ w w') := by
        intro m25 m25r
        refine e_Ok.callV rfl (by omega) rfl rfl rfl rfl (c_28 hT hr (by omega) (by omega)) (fun r27 w28 h29 => ?_)
        obtain ⟨z30, rfl, q31f, q31T, q31r⟩ := h29
        have q31Q := kI.hm q q31T (e_fr.mono q31f (fun c k g => hm_kCh g))
        show e_Ok 20 elay kcode eI (d + 1) 256 (131, [(0, (1, 0)), (1, (0, x)), (2, (0, a)), (3, (0, b)), (4, (0, c))], [(0, z30)], w28) _
        refine e_Ok.rets rfl rfl ?_
        exact ⟨_, rfl, q31T, ⟨(q31f.mono (fun c k q => nw_kCh q)), (q31f _ _ (by unfold kCh; omega))⟩, q31Q, by have g := q31f 74 1 (by unfold kCh; omega); omega, by have g := q31f 74 1 (by unfold kCh; omega); omega, aQ.q (q31f.mono (fun c k q => nq_kCh q)) hT q31T⟩
      refine e_Ok.if1 rfl (fun h24 => ?_) (fun h24 => ?_)
      · exact e_Ok.run 1 rfl (hJ26 0 (by omega))
      · exact e_Ok.run 2 rfl (hJ26 1 (by omega))
    refine e_Ok.if1 rfl (fun h21 => ?_) (fun h21 => ?_)
    · exact e_Ok.run 1 rfl (hJ23 0 (by omega))
    · exact e_Ok.run 2 rfl (hJ23 1 (by omega))
  · refine e_Ok.swk (tg := 132) rfl (by rw [h1]; rfl) ?_
    refine e_Ok.run (t' := (133, [(0, (1, 0)), (1, (0, x)), (2, (0, a)), (3, (0, b)), (4, (0, c))], [(1, 0)], w)) 1 rfl ?_
    refine e_Ok.getr (z := 74) rfl (el_o rfl) rfl rfl (Eq.trans (e_Has.eq hT rfl) (by omega)) (by omega) ?_
    refine e_Ok.run (t' := (137, [(0, (1, 0)), (1, (0, x)), (2, (0, a)), (3, (0, b)), (4, (0, c))], [(0, a), (1, 74)], w)) 1 rfl ?_
    refine e_Ok.callV rfl (by omega) rfl rfl rfl rfl (c_33_b (by omega) hT ga (by omega)) (fun r32 w33 h34 => ?_)
    obtain ⟨z35, rfl, q36f, q36T, q36r, q36x⟩ := h34
    have q36Q := kI.pon q q36T q36f q36x.2 (q36x.1.2 q.lgk)
    show e_Ok 20 elay kcode eI (d + 1) 256 (140, [(0, (1, 0)), (1, (0, x)), (2, (0, a)), (3, (0, b)), (4, (0, c))], [(0, z35)], w33) _
    refine e_Ok.rets rfl rfl ?_
    exact ⟨_, rfl, q36T, ⟨(q36f.mono (fun c k q => nw_kPw q)), (q36f _ _ (by unfold kPw; omega))⟩, q36Q, by have g := q36x.1.1; omega, by have g := q36x.1.1; omega, aQ.q (q36f.mono (fun c k q => nq_kPw q)) hT q36T⟩
  · refine e_Ok.swk (tg := 141) rfl (by rw [h1]; rfl) ?_
    have hr := hR.2.2.2.2.1 (by omega)
    refine e_Ok.run (t' := (143, [(0, (1, 0)), (1, (0, x)), (2, (0, a)), (3, (0, b)), (4, (0, c))], [(0, a), (1, 0)], w)) 2 rfl ?_
    refine e_Ok.callV rfl (by omega) rfl rfl rfl rfl (c_257 (by omega) hT hr q he) (fun r37 w38 h40 => ?_)
    obtain ⟨z41, rfl, q42T, q42f, q42x, q42e⟩ := h40
    show e_Ok 20 elay kcode eI (d + 1) 256 (146, [(0, (1, 0)), (1, (0, x)), (2, (0, a)), (3, (0, b)), (4, (0, c))], [(0, z41)], w38) _
    refine e_Ok.rets rfl rfl ?_
    exact ⟨_, rfl, q42T, ⟨(q42f.1.mono (fun c k q => nq_nw q)), q42f.2⟩, q42x, by omega, by omega, aQ.q q42f.1 hT q42T⟩
  · refine e_Ok.swk (tg := 147) rfl (by rw [h1]; rfl) ?_
    have hr := hR.2.2.2.2.2.1 (by omega)
    refine e_Ok.run (t' := (148, [(0, (1, 0)), (1, (0, x)), (2, (0, a)), (3, (0, b)), (4, (0, c))], [(1, 0)], w)) 1 rfl ?_
    refine e_Ok.getr (z := 8) rfl (el_o rfl) rfl rfl (Eq.trans (e_Has.eq hT rfl) (by omega)) (by omega) ?_
    refine e_Ok.run (t' := (152, [(0, (1, 0)), (1, (0, x)), (2, (0, a)), (3, (0, b)), (4, (0, c))], [(0, a), (1, 8)], w)) 1 rfl ?_
    refine e_Ok.callV rfl (by omega) rfl rfl rfl rfl (c_38 hT hr q) (fun r43 w44 h45 => ?_)
    obtain ⟨z46, rfl, q47T, q47f, q47x⟩ := h45
    show e_Ok 20 elay kcode eI (d + 1) 256 (155, [(0, (1, 0)), (1, (0, x)), (2, (0, a)), (3, (0, b)), (4, (0, c))], [(0, z46)], w44) _
    refine e_Ok.rets rfl rfl ?_
    exact ⟨_, rfl, q47T, ⟨(q47f.1.mono (fun c k q => nq_nw q)), q47f.2.1⟩, q47x, by have g := q47f.2.2; omega, by have g := q47f.2.2; omega, aQ.q q47f.1 hT q47T⟩
  · refine e_Ok.swk (tg := 156) rfl (by rw [h1]; rfl) ?_
    have hr := hR.2.2.2.2.2.2.1 (by omega)
    refine e_Ok.run (t' := (161, [(0, (1, 0)), (1, (0, x)), (2, (0, a)), (3, (0, b)), (4, (0, c))], [(0, c), (0, b), (0, a), (1, 0)], w)) 4 rfl ?_
    refine e_Ok.callV rfl (by omega) rfl rfl rfl rfl (c_258 (by omega) hT hr.1 hr.2.1 gc q hr.2.2.1 hr.2.2.2) (fun r48 w49 h50 => ?_)
    obtain ⟨z51, rfl, q52T, q52f, q52x, q52a⟩ := h50
    show e_Ok 20 elay kcode eI (d + 1) 256 (164, [(0, (1, 0)), (1, (0, x)), (2, (0, a)), (3, (0, b)), (4, (0, c))], [(0, z51)], w49) _
    refine e_Ok.rets rfl rfl ?_
    exact ⟨_, rfl, q52T, ⟨q52f.1, q52f.2.1⟩, q52x, by have g := q52f.2.2; omega, by have g := q52f.2.2; omega, q52a⟩
  · refine e_Ok.swk (tg := 165) rfl (by rw [h1]; rfl) ?_
    have hr := hR.2.2.2.2.2.2.2.1 (by omega)
    refine e_Ok.run (t' := (166, [(0, (1, 0)), (1, (0, x)), (2, (0, a)), (3, (0, b)), (4, (0, c))], [(1, 0)], w)) 1 rfl ?_
    refine e_Ok.getr (z := 272) rfl (el_o rfl) rfl rfl (Eq.trans (e_Has.eq hT rfl) (by omega)) (by omega) ?_
    refine e_Ok.run (t' := (171, [(0, (1, 0)), (1, (0, x)), (2, (0, a)), (3, (0, b)), (4, (0, c))], [(0, b), (0, a), (1, 272)], w)) 2 rfl ?_
    refine e_Ok.ast rfl (el_o rfl) rfl rfl (by omega) ?_
    generalize hw53 : e_up w 272 a b = w53
    have f54 : e_fr kNw w w53 := e_fr.up (e_fr.refl w) hw53 (by unfold kNw; omega)
    have hT55 : e_Has kTy w53 := e_Has.upr hT hw53 rfl (by omega)
    have QM := kI.hu q hT55 hw53 hm_272
    refine e_Ok.run (t' := (173, [(0, (1, 0)), (1, (0, x)), (2, (0, a)), (3, (0, b)), (4, (0, c))], [(0, 0)], w53)) 1 rfl ?_
    refine e_Ok.rets rfl rfl ?_
    exact ⟨_, rfl, hT55, ⟨f54, (by rw [← hw53]; exact (e_up_ne _ _ (Or.inl (by omega))).trans rfl)⟩, QM, by have g := (show w53 74 1 = w 74 1 from (by rw [← hw53]; exact (e_up_ne _ _ (Or.inl (by omega))).trans rfl)); omega, by have g := (show w53 74 1 = w 74 1 from (by rw [← hw53]; exact (e_up_ne _ _ (Or.inl (by omega))).trans rfl)); omega, aQ.q (e_fr.up (e_fr.refl w) hw53 (by unfold kNq; omega)) hT hT55⟩
  · refine e_Ok.swk (tg := 174) rfl (by rw [h1]; rfl) ?_
    have hr := hR.2.2.2.2.2.2.2.2.1 (by omega)
    refine e_Ok.run (t' := (175, [(0, (1, 0)), (1, (0, x)), (2, (0, a)), (3, (0, b)), (4, (0, c))], [(1, 0)], w)) 1 rfl ?_
    refine e_Ok.getr (z := 262) rfl (el_o rfl) rfl rfl (Eq.trans (e_Has.eq hT rfl) (by omega)) (by omega) ?_
    refine e_Ok.run (t' := (179, [(0, (1, 0)), (1, (0, x)), (2, (0, a)), (3, (0, b)), (4, (0, c))], [(1, 0), (1, 262)], w)) 1 rfl ?_
    refine e_Ok.getr (z := 9) rfl (el_o rfl) rfl rfl (Eq.trans (e_Has.eq hT rfl) (by omega)) (by omega) ?_
    refine e_Ok.run (t' := (183, [(0, (1, 0)), (1, (0, x)), (2, (0, a)), (3, (0, b)), (4, (0, c))], [(0, a), (1, 9), (1, 262)], w)) 1 rfl ?_
    refine e_Ok.aald (z := 17 * a + 86) rfl (el_o rfl) rfl (by omega) (Eq.trans (e_Has.eq hT (k9 (by omega))) (by omega)) (by omega) ?_
    refine e_Ok.run (t' := (185, [(0, (1, 0)), (1, (0, x)), (2, (0, a)), (3, (0, b)), (4, (0, c))], [(0, b), (1, 17 * a + 86), (1, 262)], w)) 1 rfl ?_
    refine e_Ok.callV rfl (by omega) rfl rfl rfl rfl (c_97 (by omega) (a := a) hT hr.1 hr.2.1 q hr.2.2.1 hr.2.2.2.1 hr.2.2.2.2) (fun r56 w57 h58 => ?_)
    obtain ⟨z59, rfl, q60T, q60f, q60x⟩ := h58
    show e_Ok 20 elay kcode eI (d + 1) 256 (188, [(0, (1, 0)), (1, (0, x)), (2, (0, a)), (3, (0, b)), (4, (0, c))], [(0, z59)], w57) _
    refine e_Ok.rets rfl rfl ?_
    exact ⟨_, rfl, q60T, ⟨(q60f.1.mono (fun c k q => nq_nw q)), q60f.2.1⟩, q60x, by have g := q60f.2.2; omega, by have g := q60f.2.2; omega, aQ.q q60f.1 hT q60T⟩
  · refine e_Ok.swk (tg := 189) rfl (by rw [h1]; rfl) ?_
    have hr := hR.2.2.2.2.2.2.2.2.2 (by omega)
    refine e_Ok.run (t' := (190, [(0, (1, 0)), (1, (0, x)), (2, (0, a)), (3, (0, b)), (4, (0, c))], [(1, 0)], w)) 1 rfl ?_
    refine e_Ok.getr (z := 262) rfl (el_o rfl) rfl rfl (Eq.trans (e_Has.eq hT rfl) (by omega)) (by omega) ?_
    refine e_Ok.run (t' := (194, [(0, (1, 0)), (1, (0, x)), (2, (0, a)), (3, (0, b)), (4, (0, c))], [(1, 0), (1, 262)], w)) 1 rfl ?_
    refine e_Ok.getr (z := 9) rfl (el_o rfl) rfl rfl (Eq.trans (e_Has.eq hT rfl) (by omega)) (by omega) ?_
    refine e_Ok.run (t' := (198, [(0, (1, 0)), (1, (0, x)), (2, (0, a)), (3, (0, b)), (4, (0, c))], [(0, a), (1, 9), (1, 262)], w)) 1 rfl ?_
    refine e_Ok.aald (z := 17 * a + 86) rfl (el_o rfl) rfl (by omega) (Eq.trans (e_Has.eq hT (k9 (by omega))) (by omega)) (by omega) ?_
    refine e_Ok.callV rfl (by omega) rfl rfl rfl rfl (c_107 (by omega) (a := a) hT hr.1 q rfl hr.2.1 hr.2.2.1 hr.2.2.2.1 hr.2.2.2.2) (fun r61 w62 h63 => ?_)
    obtain ⟨z64, rfl, q65T, q65f, q65x⟩ := h63
    show e_Ok 20 elay kcode eI (d + 1) 256 (202, [(0, (1, 0)), (1, (0, x)), (2, (0, a)), (3, (0, b)), (4, (0, c))], [(0, z64)], w62) _
    refine e_Ok.rets rfl rfl ?_
    exact ⟨_, rfl, q65T, ⟨(q65f.1.mono (fun c k q => nq_nw q)), q65f.2.1⟩, q65x, by have g := q65f.2.2; omega, by have g := q65f.2.2; omega, aQ.q q65f.1 hT q65T⟩
end
