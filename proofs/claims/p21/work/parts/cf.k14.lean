noncomputable section
/-! the class: turns begin; tasks end -/
def kGn (t : Int) (c k : Int) : Prop := (c = 8 ∧ (k = 8 ∨ k = 10 ∨ k = 11)) ∨ c = 84 ∨ (c = 6 * t + 154 ∧ (k = 1 ∨ k = 10))
def kFb (t a : Int) (c k : Int) : Prop := (c = 6 * t + 154 ∧ (k = 1 ∨ k = 4 ∨ k = 5 ∨ k = 15)) ∨ (154 ≤ c ∧ c ≤ 249 ∧ (c - 154) % 6 = 0 ∧ k = 10) ∨ (c = 74 ∧ k = 1) ∨ c = 75 ∨ c = 83 ∨ (c = 17 * a + 86 ∧ (k = 11 ∨ k = 13 ∨ k = 16 ∨ k = 18))
def kEl (t : Int) (c k : Int) : Prop := (c = 6 * t + 154 ∧ (k = 1 ∨ k = 4 ∨ k = 15)) ∨ (c = 74 ∧ k = 1) ∨ c = 75 ∨ c = 83
section Kf
variable {w w' : eW} {OP OD CL : Int → Int → Int} {h t0 : Int}
theorem hm_t {t k : Int} (ht : 0 ≤ t ∧ t ≤ 15) (hk : k = 5 ∨ k = 6 ∨ k = 7 ∨ k = 10 ∨ k = 14) : kHm (6 * t + 154) k := by
  unfold kHm
  have h1 : (6 * t + 154 - 154) % 6 = 0 := by omega
  have h2 : 154 ≤ 6 * t + 154 ∧ 6 * t + 154 ≤ 249 := by omega
  simp only [h1, h2.1, h2.2, hk, true_and, true_or, or_true]
theorem hm_a {a k : Int} (ha : 0 ≤ a ∧ a ≤ 3) (hk : k = 13 ∨ k = 15 ∨ k = 16) : kHm (17 * a + 86) k := by
  unfold kHm
  rcases c4 ha with rfl | rfl | rfl | rfl <;> simp [hk]
theorem kI.hu (q : kI w OP OD CL h t0) (hT : e_Has kTy w') {c k z : Int} (hw : e_up w c k z = w') (hk : kHm c k) : kI w' OP OD CL h t0 := q.hm hT (fun c' k' g => by
  rw [← hw]
  refine e_up_ne _ _ ?_
  by_cases e : c' = c
  · exact Or.inr (fun e2 => g (by rw [e, e2]; exact hk))
  · exact Or.inl e)
theorem kI.weak (q : kI w OP OD CL h t0) (hn : t0 < 0) {t : Int} : kI w OP OD CL h t := by
  obtain ⟨q1, q2, q3, q4, q5, q6, q7, q8, q9⟩ := q
  exact ⟨q1, q2, q3, q4, q5, q6, q7, q8, fun s g1 g2 => ⟨(q9 s g1 g2).1, fun k1 k2 => ⟨((q9 s g1 g2).2 k1 k2).1, fun _ => ((q9 s g1 g2).2 k1 k2).2 (by omega)⟩⟩⟩
theorem sK.init {w w1 w' : eW} (h1 : e_up w 8 11 0 = w1) (h2 : e_up w1 8 8 0 = w') : sK w' := by
  have e8 : w' 8 8 = 0 := by rw [← h2]; exact e_up_eq _ _ _ _
  have e11 : w' 8 11 = 0 := by rw [← h2, e_up_ne _ _ (by omega), ← h1]; exact e_up_eq _ _ _ _
  refine ⟨by rw [e8]; decide, fun i g1 g2 => by rw [e8] at g2; omega, by rw [e11]; decide, fun g => by rw [e11] at g; exact absurd g (by decide)⟩
/-- a task ends -/
theorem kI.fin {t : Int} (q : kI w OP OD CL h t) (hT : e_Has kTy w') (ht : 0 ≤ t ∧ t ≤ 15) (hA : 0 ≤ w (6 * t + 154) 2 ∧ w (6 * t + 154) 2 ≤ 3) (f : e_fr (kFi t) w w') (h1 : 5 < w' (6 * t + 154) 1) : kI w' OP OD CL h t :=
  kI.tg q hT ht (f.mono (fun c k g => Or.inr (by unfold kFi at g; omega))) (f _ _ (by unfold kFi; omega)) hA ⟨fun _ g => by omega, fun g => by omega, fun g => by omega⟩ (fun _ g => by omega)
end Kf
theorem th_kGn {t c k : Int} (g : kGn t c k) : kTh t c k := by
  unfold kGn at g
  rcases g with g | g | g
  · exact Or.inl (hm_kDs (Or.inl g))
  · exact Or.inl (hm_kDs (Or.inr g))
  · exact Or.inr (by omega)
theorem c_42 {d : Nat} (hd : 21 ≤ d) {w : eW} (hT : e_Has kTy w) {t : Int} (g_t : 0 ≤ t ∧ t ≤ 15) {OP OD CL : Int → Int → Int} {h t0 : Int} (q : kI w OP OD CL h t0) : e_Ok 20 elay kcode eI d 42 (0, [(0, (1, 8)), (1, (0, t))], [], w) (fun r w' => ∃ z : Int, r = [(0, z)] ∧ w = w' ∧ (0 ≤ z ∧ z ≤ 1) ∧ (z = 1 → 1 ≤ w (6 * t + 154) 1 ∧ w (6 * t + 154) 1 ≤ 5)) := by
  obtain ⟨d, rfl⟩ : ∃ e, d = e + 1 := ⟨d - 1, by omega⟩
  refine e_Ok.run (t' := (1, [(0, (1, 8)), (1, (0, t))], [(1, 8)], w)) 1 rfl ?_
  refine e_Ok.getr (z := 82) rfl (el_o rfl) rfl rfl (Eq.trans (e_Has.eq hT rfl) (by omega)) (by omega) ?_
  refine e_Ok.run (t' := (5, [(0, (1, 8)), (1, (0, t))], [(0, t), (1, 82)], w)) 1 rfl ?_
  refine e_Ok.aald (z := 6 * t + 154) rfl (el_o rfl) rfl (by omega) (Eq.trans (e_Has.eq hT (k82 (by omega))) (by omega)) (by omega) ?_
  have h1 := (e_Has.get hT (c := 6 * t + 154) (k := 1) (lo := 0) (hi := 7) (kT_1 (t := t) (by omega) (by omega)) (by decide))
  refine e_Ok.getf (z := w (6 * t + 154) 1) rfl (lT0 (t := t) (by omega) (by omega)) rfl rfl rfl (by omega) ?_
  refine e_Ok.run (t' := (11, [(0, (1, 8)), (1, (0, t))], [(0, 5), (0, 1), (0, w (6 * t + 154) 1)], w)) 2 rfl ?_
  refine e_Ok.callS rfl (by omega) rfl rfl (c_242 (by omega) (by omega) (by omega)) (fun r2 w3 h4 => ?_)
  obtain ⟨z5, rfl, rfl, q6⟩ := h4
  obtain ⟨rfl, q6⟩ | ⟨rfl, q6⟩ := q6
  · show e_Ok 20 elay kcode eI (d + 1) 42 (14, [(0, (1, 8)), (1, (0, t))], [(0, 1)], w) _
    refine e_Ok.if1 rfl (fun h7 => ?_) (fun h7 => ?_)
    · replace h7 : (1 : Int) ≠ 0 := h7
      refine e_Ok.run (t' := (20, [(0, (1, 8)), (1, (0, t))], [(1, 8)], w)) 1 rfl ?_
      refine e_Ok.getr (z := 82) rfl (el_o rfl) rfl rfl (Eq.trans (e_Has.eq hT rfl) (by omega)) (by omega) ?_
      refine e_Ok.run (t' := (24, [(0, (1, 8)), (1, (0, t))], [(0, t), (1, 82)], w)) 1 rfl ?_
      refine e_Ok.aald (z := 6 * t + 154) rfl (el_o rfl) rfl (by omega) (Eq.trans (e_Has.eq hT (k82 (by omega))) (by omega)) (by omega) ?_
      have h8 := (e_Has.get hT (c := 6 * t + 154) (k := 7) (lo := (-2147483648)) (hi := 2147483647) (kT_7 (t := t) (by omega) (by omega)) (by decide))
      refine e_Ok.getf (z := w (6 * t + 154) 7) rfl (lT0 (t := t) (by omega) (by omega)) rfl rfl rfl (by omega) ?_
      refine e_Ok.run (t' := (29, [(0, (1, 8)), (1, (0, t))], [(1, 8), (0, w (6 * t + 154) 7)], w)) 1 rfl ?_
      refine e_Ok.getr (z := 74) rfl (el_o rfl) rfl rfl (Eq.trans (e_Has.eq hT rfl) (by omega)) (by omega) ?_
      have h9 := (e_Has.get hT (c := 74) (k := 0) (lo := 0) (hi := 6000) rfl (by decide))
      refine e_Ok.getf (z := w 74 0) rfl (el_o rfl) rfl rfl rfl (by omega) ?_
      refine e_Ok.if2 rfl (fun h10 => ?_) (fun h10 => ?_)
      · replace h10 : (w (6 * t + 154) 7 : Int) = w 74 0 := h10
        refine e_Ok.run (t' := (63, [(0, (1, 8)), (1, (0, t))], [(0, 0)], w)) 1 rfl ?_
        refine e_Ok.rets rfl rfl ?_
        exact ⟨_, rfl, rfl, ⟨by omega, by omega⟩, by omega⟩
      · replace h10 : (w (6 * t + 154) 7 : Int) ≠ w 74 0 := by have q : ¬ ((w (6 * t + 154) 7 : Int) = w 74 0) := h10; omega
        have hac0 := (q.ts (t := t) (by omega) (by omega)).1.1 (by omega) (by omega)
        have h2 := e_Has.get hT (c := 6 * t + 154) (k := 2) (lo := -1) (hi := 3) (kT_2 (t := t) rfl (by omega)) (by decide)
        refine e_Ok.run (t' := (39, [(0, (1, 8)), (1, (0, t))], [(1, 8)], w)) 1 rfl ?_
        refine e_Ok.getr (z := 9) rfl (el_o rfl) rfl rfl (Eq.trans (e_Has.eq hT rfl) (by omega)) (by omega) ?_
        refine e_Ok.run (t' := (43, [(0, (1, 8)), (1, (0, t))], [(1, 8), (1, 9)], w)) 1 rfl ?_
        refine e_Ok.getr (z := 82) rfl (el_o rfl) rfl rfl (Eq.trans (e_Has.eq hT rfl) (by omega)) (by omega) ?_
        refine e_Ok.run (t' := (47, [(0, (1, 8)), (1, (0, t))], [(0, t), (1, 82), (1, 9)], w)) 1 rfl ?_
        refine e_Ok.aald (z := 6 * t + 154) rfl (el_o rfl) rfl (by omega) (Eq.trans (e_Has.eq hT (k82 (by omega))) (by omega)) (by omega) ?_
        refine e_Ok.getf (z := w (6 * t + 154) 2) rfl (lT0 (t := t) (by omega) (by omega)) rfl rfl rfl (by omega) ?_
        refine e_Ok.aald (z := 17 * w (6 * t + 154) 2 + 86) rfl (el_o rfl) rfl (by omega) (Eq.trans (e_Has.eq hT (k9 (by omega))) (by omega)) (by omega) ?_
        have h11 := (e_Has.get hT (c := 17 * w (6 * t + 154) 2 + 86) (k := 16) (lo := (-1)) (hi := 15) (kA_16 (a := (w (6 * t + 154) 2)) (by omega) (by omega)) (by decide))
        refine e_Ok.getf (z := w (17 * w (6 * t + 154) 2 + 86) 16) rfl (lA0 (a := (w (6 * t + 154) 2)) (by omega) (by omega)) rfl rfl rfl (by omega) ?_
        refine e_Ok.if1 rfl (fun h12 => ?_) (fun h12 => ?_)
        · replace h12 : (w (17 * w (6 * t + 154) 2 + 86) 16 : Int) ≥ 0 := h12
          refine e_Ok.run (t' := (63, [(0, (1, 8)), (1, (0, t))], [(0, 0)], w)) 1 rfl ?_
          refine e_Ok.rets rfl rfl ?_
          exact ⟨_, rfl, rfl, ⟨by omega, by omega⟩, by omega⟩
        · replace h12 : (w (17 * w (6 * t + 154) 2 + 86) 16 : Int) < 0 := by have q : ¬ ((w (17 * w (6 * t + 154) 2 + 86) 16 : Int) ≥ 0) := h12; omega
          refine e_Ok.run (t' := (63, [(0, (1, 8)), (1, (0, t))], [(0, 1)], w)) 2 rfl ?_
          refine e_Ok.rets rfl rfl ?_
          exact ⟨_, rfl, rfl, ⟨by omega, by omega⟩, by omega⟩
    · replace h7 : (1 : Int) = 0 := by have q : ¬ ((1 : Int) ≠ 0) := h7; omega
      exfalso; omega
  · show e_Ok 20 elay kcode eI (d + 1) 42 (14, [(0, (1, 8)), (1, (0, t))], [(0, 0)], w) _
    refine e_Ok.if1 rfl (fun h13 => ?_) (fun h13 => ?_)
    · replace h13 : (0 : Int) ≠ 0 := h13
      exfalso; omega
    · replace h13 : (0 : Int) = 0 := by have q : ¬ ((0 : Int) ≠ 0) := h13; omega
      refine e_Ok.run (t' := (18, [(0, (1, 8)), (1, (0, t))], [(0, 0)], w)) 1 rfl ?_
      refine e_Ok.rets rfl rfl ?_
      exact ⟨_, rfl, rfl, ⟨by omega, by omega⟩, by omega⟩
theorem c_45 {d : Nat} (hd : 21 ≤ d) {w : eW} (hT : e_Has kTy w) {t : Int} (g_t : 0 ≤ t ∧ t ≤ 15) {OP OD CL : Int → Int → Int} {h : Int} (q : kI w OP OD CL h t) (hk : sK w) (hst : 1 ≤ w (6 * t + 154) 1 ∧ w (6 * t + 154) 1 ≤ 5) : e_Ok 20 elay kcode eI d 45 (0, [(0, (1, 8)), (1, (1, 6 * t + 154))], [], w) (fun r w' => r = [] ∧ e_fr (kGn t) w w' ∧ e_Has kTy w' ∧ (kI w' OP OD CL h t ∧ sK w')) := by
  obtain ⟨d, rfl⟩ : ∃ e, d = e + 1 := ⟨d - 1, by omega⟩
  have h2 := e_Has.get hT (c := 6 * t + 154) (k := 2) (lo := -1) (hi := 3) (kT_2 (t := t) rfl (by omega)) (by decide)
  have hac := ((q.ts (t := t) (by omega) (by omega)).2 (by omega) (by omega)).1
  have hac1 := (q.ts (t := t) (by omega) (by omega)).1
  have hac0 := hac1.1 (by omega) (by omega)
  refine e_Ok.run (t' := (3, [(2, (0, 1)), (0, (1, 8)), (1, (1, 6 * t + 154))], [(1, 6 * t + 154)], w)) 3 rfl ?_
  refine e_Ok.getf (z := w (6 * t + 154) 1) rfl (lT0 (t := t) (by omega) (by omega)) rfl rfl rfl (by omega) ?_
  have hs2 : ∀ x : Int, 1 ≤ x ∧ x ≤ 5 → (x = 1 ∨ x = 4) ∨ (x = 2) ∨ (x = 3) ∨ (x = 5) := fun x h => by omega
  obtain h1 | h1 | h1 | h1 := hs2 (w (6 * t + 154) 1) (by omega)
  · refine e_Ok.swk (tg := 113) rfl (by rcases h1 with h1 | h1 <;> (rw [h1]; rfl)) ?_
    refine e_Ok.run (t' := (114, [(2, (0, 1)), (0, (1, 8)), (1, (1, 6 * t + 154))], [(0, 1)], w)) 1 rfl ?_
    refine e_Ok.if1 rfl (fun h3 => ?_) (fun h3 => ?_)
    · replace h3 : (1 : Int) ≠ 0 := h3
      refine e_Ok.run (t' := (120, [(2, (0, 1)), (0, (1, 8)), (1, (1, 6 * t + 154))], [(0, 1), (1, 6 * t + 154)], w)) 2 rfl ?_
      refine e_Ok.putf rfl (lT0 (t := t) (by omega) (by omega)) rfl rfl ?_
      generalize hw4 : e_up w (6 * t + 154) 1 1 = w4
      have f5 : e_fr (kGn t) w w4 := e_fr.up (e_fr.refl w) hw4 (by unfold kGn; omega)
      have hT6 : e_Has kTy w4 := e_Has.upr hT hw4 (kT_1 (t := t) (by omega) (by omega)) (by omega)
      refine e_Ok.run (t' := (124, [(2, (0, 1)), (0, (1, 8)), (1, (1, 6 * t + 154))], [(1, 6 * t + 154)], w4)) 1 rfl ?_
      have h7 := (e_Has.get hT (c := 6 * t + 154) (k := 10) (lo := 0) (hi := 1) (kT_10 (t := t) (by omega) (by omega)) (by decide))
      refine e_Ok.getf (z := w (6 * t + 154) 10) rfl (lT0 (t := t) (by omega) (by omega)) rfl rfl (by rw [← hw4]; exact (e_up_ne _ _ (Or.inr (by omega))).trans rfl) (by omega) ?_
      refine e_Ok.if1 rfl (fun h8 => ?_) (fun h8 => ?_)
      · replace h8 : (w (6 * t + 154) 10 : Int) = 0 := h8
        refine e_Ok.run (t' := (138, [(2, (0, 1)), (0, (1, 8)), (1, (1, 6 * t + 154))], [(0, 0), (1, 6 * t + 154)], w4)) 2 rfl ?_
        refine e_Ok.putb rfl (lT0 (t := t) (by omega) (by omega)) rfl rfl (by omega) ?_
        generalize hw9 : e_up w4 (6 * t + 154) 10 0 = w9
        have f10 : e_fr (kGn t) w w9 := e_fr.up f5 hw9 (by unfold kGn; omega)
        have hT11 : e_Has kTy w9 := e_Has.upr hT6 hw9 (kT_10 (t := t) (by omega) (by omega)) (by omega)
        refine e_Ok.rets rfl rfl ?_
        have eA : ∀ c k, ¬ kGn t c k → w9 c k = w c k := f10
        have e1 : w9 (6 * t + 154) 1 = 1 := (by rw [← hw9]; exact (e_up_ne _ _ (Or.inr (by omega))).trans (by rw [← hw4]; exact e_up_eq _ _ _ _))
        exact ⟨rfl, f10, hT11, ⟨kI.tg q hT11 (by omega) (e_fr.mono f10 (fun c k g => th_kGn g)) (eA _ _ (by unfold kGn; omega)) (by omega) ⟨fun _ _ => by rw [eA _ _ (by unfold kGn; omega)]; exact hac0, fun g => by omega, fun g => by omega⟩ (fun _ _ => hac.eq (fun d k g => eA _ _ (by unfold kGn; omega))), (sK.eq (fun c k g => by rw [← hw9, e_up_ne _ _ (by omega), ← hw4, e_up_ne _ _ (by omega)]) hk)⟩⟩
      · replace h8 : (w (6 * t + 154) 10 : Int) ≠ 0 := by have q : ¬ ((w (6 * t + 154) 10 : Int) = 0) := h8; omega
        refine e_Ok.run (t' := (133, [(2, (0, 1)), (0, (1, 8)), (1, (1, 6 * t + 154))], [(0, 6), (1, 8)], w4)) 2 rfl ?_
        refine e_Ok.callV rfl (by omega) rfl rfl rfl rfl (c_46 hT6 (by omega) (sK.eq (fun c k g => by rw [← hw4, e_up_ne _ _ (by omega)]) hk)) (fun r12 w13 h14 => ?_)
        obtain ⟨rfl, q15f, q15T, q15x⟩ := h14
        have f16 : e_fr (kGn t) w w13 := e_fr.trans f5 (e_fr.mono q15f (fun c k q => by unfold kDs at q; unfold kGn; omega))
        show e_Ok 20 elay kcode eI (d + 1) 45 (136, [(2, (0, 1)), (0, (1, 8)), (1, (1, 6 * t + 154))], [], w13) _
        refine e_Ok.run (t' := (138, [(2, (0, 1)), (0, (1, 8)), (1, (1, 6 * t + 154))], [(0, 0), (1, 6 * t + 154)], w13)) 2 rfl ?_
        refine e_Ok.putb rfl (lT0 (t := t) (by omega) (by omega)) rfl rfl (by omega) ?_
        generalize hw17 : e_up w13 (6 * t + 154) 10 0 = w17
        have f18 : e_fr (kGn t) w w17 := e_fr.up f16 hw17 (by unfold kGn; omega)
        have hT19 : e_Has kTy w17 := e_Has.upr q15T hw17 (kT_10 (t := t) (by omega) (by omega)) (by omega)
        refine e_Ok.rets rfl rfl ?_
        have eA : ∀ c k, ¬ kGn t c k → w17 c k = w c k := f18
        have e1 : w17 (6 * t + 154) 1 = 1 := (by rw [← hw17]; exact (e_up_ne _ _ (Or.inr (by omega))).trans ((q15f (6 * t + 154) 1 (by unfold kDs; omega)).trans (by rw [← hw4]; exact e_up_eq _ _ _ _)))
        exact ⟨rfl, f18, hT19, ⟨kI.tg q hT19 (by omega) (e_fr.mono f18 (fun c k g => th_kGn g)) (eA _ _ (by unfold kGn; omega)) (by omega) ⟨fun _ _ => by rw [eA _ _ (by unfold kGn; omega)]; exact hac0, fun g => by omega, fun g => by omega⟩ (fun _ _ => hac.eq (fun d k g => eA _ _ (by unfold kGn; omega))), (sK.eq (fun c k g => by rw [← hw17, e_up_ne _ _ (by omega)]) q15x)⟩⟩
    · replace h3 : (1 : Int) = 0 := by have q : ¬ ((1 : Int) ≠ 0) := h3; omega
      exfalso; omega
  · refine e_Ok.swk (tg := 36) rfl (by rw [h1]; rfl) ?_
    refine e_Ok.run (t' := (37, [(2, (0, 1)), (0, (1, 8)), (1, (1, 6 * t + 154))], [(1, 8)], w)) 1 rfl ?_
    refine e_Ok.getr (z := 9) rfl (el_o rfl) rfl rfl (Eq.trans (e_Has.eq hT rfl) (by omega)) (by omega) ?_
    refine e_Ok.run (t' := (41, [(2, (0, 1)), (0, (1, 8)), (1, (1, 6 * t + 154))], [(1, 6 * t + 154), (1, 9)], w)) 1 rfl ?_
    refine e_Ok.getf (z := w (6 * t + 154) 2) rfl (lT0 (t := t) (by omega) (by omega)) rfl rfl rfl (by omega) ?_
    refine e_Ok.aald (z := 17 * w (6 * t + 154) 2 + 86) rfl (el_o rfl) rfl (by omega) (Eq.trans (e_Has.eq hT (k9 (by omega))) (by omega)) (by omega) ?_
    have h20 := (e_Has.get hT (c := 17 * w (6 * t + 154) 2 + 86) (k := 11) (lo := 0) (hi := 2) (kA_11 (a := (w (6 * t + 154) 2)) (by omega) (by omega)) (by decide))
    refine e_Ok.getf (z := w (17 * w (6 * t + 154) 2 + 86) 11) rfl (lA0 (a := (w (6 * t + 154) 2)) (by omega) (by omega)) rfl rfl rfl (by omega) ?_
    have hJ23 : ∀ m22 : Int, 0 ≤ m22 ∧ m22 ≤ 1 → e_Ok 20 elay kcode eI (d + 1) 45 (56, [(2, (0, 1)), (0, (1, 8)), (1, (1, 6 * t + 154))], [(0, m22)], w) (fun r w' => r = [] ∧ e_fr (kGn t) w w' ∧ e_Has kTy w' ∧ (kI w' OP OD CL h t ∧ sK w')) := by
      intro m22 m22r
      refine e_Ok.run (t' := (113, [(2, (0, m22)), (0, (1, 8)), (1, (1, 6 * t + 154))], [], w)) 2 rfl ?_
      refine e_Ok.run (t' := (114, [(2, (0, m22)), (0, (1, 8)), (1, (1, 6 * t + 154))], [(0, m22)], w)) 1 rfl ?_
      refine e_Ok.if1 rfl (fun h24 => ?_) (fun h24 => ?_)
      · replace h24 : (m22 : Int) ≠ 0 := h24
        refine e_Ok.run (t' := (120, [(2, (0, m22)), (0, (1, 8)), (1, (1, 6 * t + 154))], [(0, 1), (1, 6 * t + 154)], w)) 2 rfl ?_
        refine e_Ok.putf rfl (lT0 (t := t) (by omega) (by omega)) rfl rfl ?_
        generalize hw25 : e_up w (6 * t + 154) 1 1 = w25
        have f26 : e_fr (kGn t) w w25 := e_fr.up (e_fr.refl w) hw25 (by unfold kGn; omega)
        have hT27 : e_Has kTy w25 := e_Has.upr hT hw25 (kT_1 (t := t) (by omega) (by omega)) (by omega)
        refine e_Ok.run (t' := (124, [(2, (0, m22)), (0, (1, 8)), (1, (1, 6 * t + 154))], [(1, 6 * t + 154)], w25)) 1 rfl ?_
        have h28 := (e_Has.get hT (c := 6 * t + 154) (k := 10) (lo := 0) (hi := 1) (kT_10 (t := t) (by omega) (by omega)) (by decide))
        refine e_Ok.getf (z := w (6 * t + 154) 10) rfl (lT0 (t := t) (by omega) (by omega)) rfl rfl (by rw [← hw25]; exact (e_up_ne _ _ (Or.inr (by omega))).trans rfl) (by omega) ?_
        refine e_Ok.if1 rfl (fun h29 => ?_) (fun h29 => ?_)
        · replace h29 : (w (6 * t + 154) 10 : Int) = 0 := h29
          refine e_Ok.run (t' := (138, [(2, (0, m22)), (0, (1, 8)), (1, (1, 6 * t + 154))], [(0, 0), (1, 6 * t + 154)], w25)) 2 rfl ?_
          refine e_Ok.putb rfl (lT0 (t := t) (by omega) (by omega)) rfl rfl (by omega) ?_
          generalize hw30 : e_up w25 (6 * t + 154) 10 0 = w30
          have f31 : e_fr (kGn t) w w30 := e_fr.up f26 hw30 (by unfold kGn; omega)
          have hT32 : e_Has kTy w30 := e_Has.upr hT27 hw30 (kT_10 (t := t) (by omega) (by omega)) (by omega)
          refine e_Ok.rets rfl rfl ?_
          have eA : ∀ c k, ¬ kGn t c k → w30 c k = w c k := f31
          have e1 : w30 (6 * t + 154) 1 = 1 := (by rw [← hw30]; exact (e_up_ne _ _ (Or.inr (by omega))).trans (by rw [← hw25]; exact e_up_eq _ _ _ _))
          exact ⟨rfl, f31, hT32, ⟨kI.tg q hT32 (by omega) (e_fr.mono f31 (fun c k g => th_kGn g)) (eA _ _ (by unfold kGn; omega)) (by omega) ⟨fun _ _ => by rw [eA _ _ (by unfold kGn; omega)]; exact hac0, fun g => by omega, fun g => by omega⟩ (fun _ _ => hac.eq (fun d k g => eA _ _ (by unfold kGn; omega))), (sK.eq (fun c k g => by rw [← hw30, e_up_ne _ _ (by omega), ← hw25, e_up_ne _ _ (by omega)]) hk)⟩⟩
        · replace h29 : (w (6 * t + 154) 10 : Int) ≠ 0 := by have q : ¬ ((w (6 * t + 154) 10 : Int) = 0) := h29; omega
          refine e_Ok.run (t' := (133, [(2, (0, m22)), (0, (1, 8)), (1, (1, 6 * t + 154))], [(0, 6), (1, 8)], w25)) 2 rfl ?_
          refine e_Ok.callV rfl (by omega) rfl rfl rfl rfl (c_46 hT27 (by omega) (sK.eq (fun c k g => by rw [← hw25, e_up_ne _ _ (by omega)]) hk)) (fun r33 w34 h35 => ?_)
          obtain ⟨rfl, q36f, q36T, q36x⟩ := h35
          have f37 : e_fr (kGn t) w w34 := e_fr.trans f26 (e_fr.mono q36f (fun c k q => by unfold kDs at q; unfold kGn; omega))
          show e_Ok 20 elay kcode eI (d + 1) 45 (136, [(2, (0, m22)), (0, (1, 8)), (1, (1, 6 * t + 154))], [], w34) _
          refine e_Ok.run (t' := (138, [(2, (0, m22)), (0, (1, 8)), (1, (1, 6 * t + 154))], [(0, 0), (1, 6 * t + 154)], w34)) 2 rfl ?_
          refine e_Ok.putb rfl (lT0 (t := t) (by omega) (by omega)) rfl rfl (by omega) ?_
          generalize hw38 : e_up w34 (6 * t + 154) 10 0 = w38
          have f40 : e_fr (kGn t) w w38 := e_fr.up f37 hw38 (by unfold kGn; omega)
          have hT41 : e_Has kTy w38 := e_Has.upr q36T hw38 (kT_10 (t := t) (by omega) (by omega)) (by omega)
          refine e_Ok.rets rfl rfl ?_
          have eA : ∀ c k, ¬ kGn t c k → w38 c k = w c k := f40
          have e1 : w38 (6 * t + 154) 1 = 1 := (by rw [← hw38]; exact (e_up_ne _ _ (Or.inr (by omega))).trans ((q36f (6 * t + 154) 1 (by unfold kDs; omega)).trans (by rw [← hw25]; exact e_up_eq _ _ _ _)))
          exact ⟨rfl, f40, hT41, ⟨kI.tg q hT41 (by omega) (e_fr.mono f40 (fun c k g => th_kGn g)) (eA _ _ (by unfold kGn; omega)) (by omega) ⟨fun _ _ => by rw [eA _ _ (by unfold kGn; omega)]; exact hac0, fun g => by omega, fun g => by omega⟩ (fun _ _ => hac.eq (fun d k g => eA _ _ (by unfold kGn; omega))), (sK.eq (fun c k g => by rw [← hw38, e_up_ne _ _ (by omega)]) q36x)⟩⟩
      · replace h24 : (m22 : Int) = 0 := by have q : ¬ ((m22 : Int) ≠ 0) := h24; omega
        refine e_Ok.rets rfl rfl ?_
        exact ⟨rfl, (e_fr.refl w), hT, ⟨q, hk⟩⟩
    refine e_Ok.if1 rfl (fun h21 => ?_) (fun h21 => ?_)
    · exact e_Ok.run 1 rfl (hJ23 0 (by omega))
    · exact e_Ok.run 2 rfl (hJ23 1 (by omega))
  · refine e_Ok.swk (tg := 60) rfl (by rw [h1]; rfl) ?_
    have hac2 := hac1.2.1 (by omega); unfold kn1 at hac2
    refine e_Ok.run (t' := (61, [(2, (0, 1)), (0, (1, 8)), (1, (1, 6 * t + 154))], [(1, 8)], w)) 1 rfl ?_
    refine e_Ok.getr (z := 74) rfl (el_o rfl) rfl rfl (Eq.trans (e_Has.eq hT rfl) (by omega)) (by omega) ?_
    have h42 := (e_Has.get hT (c := 74) (k := 0) (lo := 0) (hi := 6000) rfl (by decide))
    refine e_Ok.getf (z := w 74 0) rfl (el_o rfl) rfl rfl rfl (by omega) ?_
    refine e_Ok.run (t' := (68, [(2, (0, 1)), (0, (1, 8)), (1, (1, 6 * t + 154))], [(1, 6 * t + 154), (0, w 74 0)], w)) 1 rfl ?_
    refine e_Ok.getf (z := w (6 * t + 154) 9) rfl (lT0 (t := t) (by omega) (by omega)) rfl rfl rfl (by omega) ?_
    refine e_Ok.any rfl (eF_sub_any _ _) (fun z43 z43a z43b => ?_)
    refine e_Ok.run (t' := (73, [(2, (0, 1)), (0, (1, 8)), (1, (1, 6 * t + 154))], [(1, 6 * t + 154), (0, z43)], w)) 1 rfl ?_
    refine e_Ok.getf (z := w (6 * t + 154) 8) rfl (lT0 (t := t) (by omega) (by omega)) rfl rfl rfl (by omega) ?_
    have hJ46 : ∀ m45 : Int, 0 ≤ m45 ∧ m45 ≤ 1 → e_Ok 20 elay kcode eI (d + 1) 45 (84, [(2, (0, 1)), (0, (1, 8)), (1, (1, 6 * t + 154))], [(0, m45)], w) (fun r w' => r = [] ∧ e_fr (kGn t) w w' ∧ e_Has kTy w' ∧ (kI w' OP OD CL h t ∧ sK w')) := by
      intro m45 m45r
      refine e_Ok.run (t' := (113, [(2, (0, m45)), (0, (1, 8)), (1, (1, 6 * t + 154))], [], w)) 2 rfl ?_
      refine e_Ok.run (t' := (114, [(2, (0, m45)), (0, (1, 8)), (1, (1, 6 * t + 154))], [(0, m45)], w)) 1 rfl ?_
      refine e_Ok.if1 rfl (fun h47 => ?_) (fun h47 => ?_)
      · replace h47 : (m45 : Int) ≠ 0 := h47
        refine e_Ok.run (t' := (120, [(2, (0, m45)), (0, (1, 8)), (1, (1, 6 * t + 154))], [(0, 1), (1, 6 * t + 154)], w)) 2 rfl ?_
        refine e_Ok.putf rfl (lT0 (t := t) (by omega) (by omega)) rfl rfl ?_
        generalize hw48 : e_up w (6 * t + 154) 1 1 = w48
        have f49 : e_fr (kGn t) w w48 := e_fr.up (e_fr.refl w) hw48 (by unfold kGn; omega)
        have hT50 : e_Has kTy w48 := e_Has.upr hT hw48 (kT_1 (t := t) (by omega) (by omega)) (by omega)
        refine e_Ok.run (t' := (124, [(2, (0, m45)), (0, (1, 8)), (1, (1, 6 * t + 154))], [(1, 6 * t + 154)], w48)) 1 rfl ?_
        have h51 := (e_Has.get hT (c := 6 * t + 154) (k := 10) (lo := 0) (hi := 1) (kT_10 (t := t) (by omega) (by omega)) (by decide))
        refine e_Ok.getf (z := w (6 * t + 154) 10) rfl (lT0 (t := t) (by omega) (by omega)) rfl rfl (by rw [← hw48]; exact (e_up_ne _ _ (Or.inr (by omega))).trans rfl) (by omega) ?_
        refine e_Ok.if1 rfl (fun h52 => ?_) (fun h52 => ?_)
        · replace h52 : (w (6 * t + 154) 10 : Int) = 0 := h52
          refine e_Ok.run (t' := (138, [(2, (0, m45)), (0, (1, 8)), (1, (1, 6 * t + 154))], [(0, 0), (1, 6 * t + 154)], w48)) 2 rfl ?_
          refine e_Ok.putb rfl (lT0 (t := t) (by omega) (by omega)) rfl rfl (by omega) ?_
          generalize hw53 : e_up w48 (6 * t + 154) 10 0 = w53
          have f54 : e_fr (kGn t) w w53 := e_fr.up f49 hw53 (by unfold kGn; omega)
          have hT55 : e_Has kTy w53 := e_Has.upr hT50 hw53 (kT_10 (t := t) (by omega) (by omega)) (by omega)
          refine e_Ok.rets rfl rfl ?_
          have eA : ∀ c k, ¬ kGn t c k → w53 c k = w c k := f54
          have e1 : w53 (6 * t + 154) 1 = 1 := (by rw [← hw53]; exact (e_up_ne _ _ (Or.inr (by omega))).trans (by rw [← hw48]; exact e_up_eq _ _ _ _))
          exact ⟨rfl, f54, hT55, ⟨kI.tg q hT55 (by omega) (e_fr.mono f54 (fun c k g => th_kGn g)) (eA _ _ (by unfold kGn; omega)) (by omega) ⟨fun _ _ => by rw [eA _ _ (by unfold kGn; omega)]; exact hac0, fun g => by omega, fun g => by omega⟩ (fun _ _ => hac.eq (fun d k g => eA _ _ (by unfold kGn; omega))), (sK.eq (fun c k g => by rw [← hw53, e_up_ne _ _ (by omega), ← hw48, e_up_ne _ _ (by omega)]) hk)⟩⟩
        · replace h52 : (w (6 * t + 154) 10 : Int) ≠ 0 := by have q : ¬ ((w (6 * t + 154) 10 : Int) = 0) := h52; omega
          refine e_Ok.run (t' := (133, [(2, (0, m45)), (0, (1, 8)), (1, (1, 6 * t + 154))], [(0, 6), (1, 8)], w48)) 2 rfl ?_
          refine e_Ok.callV rfl (by omega) rfl rfl rfl rfl (c_46 hT50 (by omega) (sK.eq (fun c k g => by rw [← hw48, e_up_ne _ _ (by omega)]) hk)) (fun r56 w57 h58 => ?_)
          obtain ⟨rfl, q59f, q59T, q59x⟩ := h58
          have f60 : e_fr (kGn t) w w57 := e_fr.trans f49 (e_fr.mono q59f (fun c k q => by unfold kDs at q; unfold kGn; omega))
          show e_Ok 20 elay kcode eI (d + 1) 45 (136, [(2, (0, m45)), (0, (1, 8)), (1, (1, 6 * t + 154))], [], w57) _
          refine e_Ok.run (t' := (138, [(2, (0, m45)), (0, (1, 8)), (1, (1, 6 * t + 154))], [(0, 0), (1, 6 * t + 154)], w57)) 2 rfl ?_
          refine e_Ok.putb rfl (lT0 (t := t) (by omega) (by omega)) rfl rfl (by omega) ?_
          generalize hw61 : e_up w57 (6 * t + 154) 10 0 = w61
          have f62 : e_fr (kGn t) w w61 := e_fr.up f60 hw61 (by unfold kGn; omega)
          have hT63 : e_Has kTy w61 := e_Has.upr q59T hw61 (kT_10 (t := t) (by omega) (by omega)) (by omega)
          refine e_Ok.rets rfl rfl ?_
          have eA : ∀ c k, ¬ kGn t c k → w61 c k = w c k := f62
          have e1 : w61 (6 * t + 154) 1 = 1 := (by rw [← hw61]; exact (e_up_ne _ _ (Or.inr (by omega))).trans ((q59f (6 * t + 154) 1 (by unfold kDs; omega)).trans (by rw [← hw48]; exact e_up_eq _ _ _ _)))
          exact ⟨rfl, f62, hT63, ⟨kI.tg q hT63 (by omega) (e_fr.mono f62 (fun c k g => th_kGn g)) (eA _ _ (by unfold kGn; omega)) (by omega) ⟨fun _ _ => by rw [eA _ _ (by unfold kGn; omega)]; exact hac0, fun g => by omega, fun g => by omega⟩ (fun _ _ => hac.eq (fun d k g => eA _ _ (by unfold kGn; omega))), (sK.eq (fun c k g => by rw [← hw61, e_up_ne _ _ (by omega)]) q59x)⟩⟩
      · replace h47 : (m45 : Int) = 0 := by have q : ¬ ((m45 : Int) ≠ 0) := h47; omega
        refine e_Ok.rets rfl rfl ?_
        exact ⟨rfl, (e_fr.refl w), hT, ⟨q, hk⟩⟩
    refine e_Ok.if2 rfl (fun h44 => ?_) (fun h44 => ?_)
    · exact e_Ok.run 1 rfl (hJ46 0 (by omega))
    · exact e_Ok.run 2 rfl (hJ46 1 (by omega))
  · refine e_Ok.swk (tg := 88) rfl (by rw [h1]; rfl) ?_
    have hac2 := hac1.2.2 (by omega); unfold kn1 at hac2
    refine e_Ok.run (t' := (89, [(2, (0, 1)), (0, (1, 8)), (1, (1, 6 * t + 154))], [(1, 8)], w)) 1 rfl ?_
    refine e_Ok.getr (z := 83) rfl (el_o rfl) rfl rfl (Eq.trans (e_Has.eq hT rfl) (by omega)) (by omega) ?_
    refine e_Ok.run (t' := (93, [(2, (0, 1)), (0, (1, 8)), (1, (1, 6 * t + 154))], [(1, 6 * t + 154), (1, 83)], w)) 1 rfl ?_
    refine e_Ok.getf (z := w (6 * t + 154) 8) rfl (lT0 (t := t) (by omega) (by omega)) rfl rfl rfl (by omega) ?_
    have h64 := (e_Has.get hT (c := 83) (k := w (6 * t + 154) 8) (lo := (-1)) (hi := 15) rfl (by decide))
    refine e_Ok.ald (z := w 83 (w (6 * t + 154) 8)) rfl rfl rfl (by omega) rfl (by omega) ?_
    refine e_Ok.run (t' := (98, [(2, (0, 1)), (0, (1, 8)), (1, (1, 6 * t + 154))], [(1, 6 * t + 154), (0, w 83 (w (6 * t + 154) 8))], w)) 1 rfl ?_
    refine e_Ok.getf (z := t) rfl (lT0 (t := t) (by omega) (by omega)) rfl rfl (Eq.trans (e_Has.eq hT (kT_0 (t := t) (by omega) (by omega))) (by omega)) (by omega) ?_
    have hJ67 : ∀ m66 : Int, 0 ≤ m66 ∧ m66 ≤ 1 → e_Ok 20 elay kcode eI (d + 1) 45 (109, [(2, (0, 1)), (0, (1, 8)), (1, (1, 6 * t + 154))], [(0, m66)], w) (fun r w' => r = [] ∧ e_fr (kGn t) w w' ∧ e_Has kTy w' ∧ (kI w' OP OD CL h t ∧ sK w')) := by
      intro m66 m66r
      refine e_Ok.run (t' := (113, [(2, (0, m66)), (0, (1, 8)), (1, (1, 6 * t + 154))], [], w)) 2 rfl ?_
      refine e_Ok.run (t' := (114, [(2, (0, m66)), (0, (1, 8)), (1, (1, 6 * t + 154))], [(0, m66)], w)) 1 rfl ?_
      refine e_Ok.if1 rfl (fun h68 => ?_) (fun h68 => ?_)
      · replace h68 : (m66 : Int) ≠ 0 := h68
        refine e_Ok.run (t' := (120, [(2, (0, m66)), (0, (1, 8)), (1, (1, 6 * t + 154))], [(0, 1), (1, 6 * t + 154)], w)) 2 rfl ?_
        refine e_Ok.putf rfl (lT0 (t := t) (by omega) (by omega)) rfl rfl ?_
        generalize hw69 : e_up w (6 * t + 154) 1 1 = w69
        have f70 : e_fr (kGn t) w w69 := e_fr.up (e_fr.refl w) hw69 (by unfold kGn; omega)
        have hT71 : e_Has kTy w69 := e_Has.upr hT hw69 (kT_1 (t := t) (by omega) (by omega)) (by omega)
        refine e_Ok.run (t' := (124, [(2, (0, m66)), (0, (1, 8)), (1, (1, 6 * t + 154))], [(1, 6 * t + 154)], w69)) 1 rfl ?_
        have h72 := (e_Has.get hT (c := 6 * t + 154) (k := 10) (lo := 0) (hi := 1) (kT_10 (t := t) (by omega) (by omega)) (by decide))
        refine e_Ok.getf (z := w (6 * t + 154) 10) rfl (lT0 (t := t) (by omega) (by omega)) rfl rfl (by rw [← hw69]; exact (e_up_ne _ _ (Or.inr (by omega))).trans rfl) (by omega) ?_
        refine e_Ok.if1 rfl (fun h73 => ?_) (fun h73 => ?_)
        · replace h73 : (w (6 * t + 154) 10 : Int) = 0 := h73
          refine e_Ok.run (t' := (138, [(2, (0, m66)), (0, (1, 8)), (1, (1, 6 * t + 154))], [(0, 0), (1, 6 * t + 154)], w69)) 2 rfl ?_
          refine e_Ok.putb rfl (lT0 (t := t) (by omega) (by omega)) rfl rfl (by omega) ?_
          generalize hw74 : e_up w69 (6 * t + 154) 10 0 = w74
          have f75 : e_fr (kGn t) w w74 := e_fr.up f70 hw74 (by unfold kGn; omega)
          have hT76 : e_Has kTy w74 := e_Has.upr hT71 hw74 (kT_10 (t := t) (by omega) (by omega)) (by omega)
          refine e_Ok.rets rfl rfl ?_
          have eA : ∀ c k, ¬ kGn t c k → w74 c k = w c k := f75
          have e1 : w74 (6 * t + 154) 1 = 1 := (by rw [← hw74]; exact (e_up_ne _ _ (Or.inr (by omega))).trans (by rw [← hw69]; exact e_up_eq _ _ _ _))
          exact ⟨rfl, f75, hT76, ⟨kI.tg q hT76 (by omega) (e_fr.mono f75 (fun c k g => th_kGn g)) (eA _ _ (by unfold kGn; omega)) (by omega) ⟨fun _ _ => by rw [eA _ _ (by unfold kGn; omega)]; exact hac0, fun g => by omega, fun g => by omega⟩ (fun _ _ => hac.eq (fun d k g => eA _ _ (by unfold kGn; omega))), (sK.eq (fun c k g => by rw [← hw74, e_up_ne _ _ (by omega), ← hw69, e_up_ne _ _ (by omega)]) hk)⟩⟩
        · replace h73 : (w (6 * t + 154) 10 : Int) ≠ 0 := by have q : ¬ ((w (6 * t + 154) 10 : Int) = 0) := h73; omega
          refine e_Ok.run (t' := (133, [(2, (0, m66)), (0, (1, 8)), (1, (1, 6 * t + 154))], [(0, 6), (1, 8)], w69)) 2 rfl ?_
          refine e_Ok.callV rfl (by omega) rfl rfl rfl rfl (c_46 hT71 (by omega) (sK.eq (fun c k g => by rw [← hw69, e_up_ne _ _ (by omega)]) hk)) (fun r77 w78 h79 => ?_)
          obtain ⟨rfl, q80f, q80T, q80x⟩ := h79
          have f81 : e_fr (kGn t) w w78 := e_fr.trans f70 (e_fr.mono q80f (fun c k q => by unfold kDs at q; unfold kGn; omega))
          show e_Ok 20 elay kcode eI (d + 1) 45 (136, [(2, (0, m66)), (0, (1, 8)), (1, (1, 6 * t + 154))], [], w78) _
          refine e_Ok.run (t' := (138, [(2, (0, m66)), (0, (1, 8)), (1, (1, 6 * t + 154))], [(0, 0), (1, 6 * t + 154)], w78)) 2 rfl ?_
          refine e_Ok.putb rfl (lT0 (t := t) (by omega) (by omega)) rfl rfl (by omega) ?_
          generalize hw82 : e_up w78 (6 * t + 154) 10 0 = w82
          have f83 : e_fr (kGn t) w w82 := e_fr.up f81 hw82 (by unfold kGn; omega)
          have hT84 : e_Has kTy w82 := e_Has.upr q80T hw82 (kT_10 (t := t) (by omega) (by omega)) (by omega)
          refine e_Ok.rets rfl rfl ?_
          have eA : ∀ c k, ¬ kGn t c k → w82 c k = w c k := f83
          have e1 : w82 (6 * t + 154) 1 = 1 := (by rw [← hw82]; exact (e_up_ne _ _ (Or.inr (by omega))).trans ((q80f (6 * t + 154) 1 (by unfold kDs; omega)).trans (by rw [← hw69]; exact e_up_eq _ _ _ _)))
          exact ⟨rfl, f83, hT84, ⟨kI.tg q hT84 (by omega) (e_fr.mono f83 (fun c k g => th_kGn g)) (eA _ _ (by unfold kGn; omega)) (by omega) ⟨fun _ _ => by rw [eA _ _ (by unfold kGn; omega)]; exact hac0, fun g => by omega, fun g => by omega⟩ (fun _ _ => hac.eq (fun d k g => eA _ _ (by unfold kGn; omega))), (sK.eq (fun c k g => by rw [← hw82, e_up_ne _ _ (by omega)]) q80x)⟩⟩
      · replace h68 : (m66 : Int) = 0 := by have q : ¬ ((m66 : Int) ≠ 0) := h68; omega
        refine e_Ok.rets rfl rfl ?_
        exact ⟨rfl, (e_fr.refl w), hT, ⟨q, hk⟩⟩
    refine e_Ok.if2 rfl (fun h65 => ?_) (fun h65 => ?_)
    · exact e_Ok.run 1 rfl (hJ67 0 (by omega))
    · exact e_Ok.run 2 rfl (hJ67 1 (by omega))
theorem c_48 {d : Nat} (hd : 24 ≤ d) {w : eW} (hT : e_Has kTy w) {t a e : Int} (g_t : 0 ≤ t ∧ t ≤ 15) (g_a : 0 ≤ a ∧ a ≤ 3) (g_e : (-2147483648) ≤ e ∧ e ≤ 2147483647) {OP OD CL : Int → Int → Int} {h : Int} (q : kI w OP OD CL h t) (ha : w (6 * t + 154) 2 = a) (he : w 74 1 < 2147483646) : e_Ok 20 elay kcode eI d 48 (0, [(0, (1, 8)), (1, (1, 6 * t + 154)), (2, (0, e))], [], w) (fun r w' => r = [] ∧ e_fr (kFb t a) w w' ∧ e_Has kTy w' ∧ (kI w' OP OD CL h t ∧ w' (6 * t + 154) 1 = 7 ∧ w 74 1 ≤ w' 74 1 ∧ w' 74 1 ≤ w 74 1 + 2)) := by
  obtain ⟨d, rfl⟩ : ∃ e, d = e + 1 := ⟨d - 1, by omega⟩
  have h74 := e_Has.get hT (c := 74) (k := 1) (lo := 0) (hi := 2147483647) rfl (by decide)
  refine e_Ok.run (t' := (3, [(0, (1, 8)), (1, (1, 6 * t + 154)), (2, (0, e))], [(0, 7), (1, 6 * t + 154)], w)) 2 rfl ?_
  refine e_Ok.callV rfl (by omega) rfl (lT0 (t := t) (by omega) (by omega)) rfl rfl (c_181 (t := t) (op := fun x => x) hT (by omega) (by omega)) (fun r1 w2 h3 => ?_)
  obtain ⟨rfl, q4f, q4T, q4a, q4b, q4c⟩ := h3
  have f5 : e_fr (kFb t a) w w2 := e_fr.trans (e_fr.refl w) (e_fr.mono q4f (fun c k q => by unfold kFi at q; unfold kFb; omega))
  have Q6 := kI.fin q q4T (by omega) (by omega) q4f (by rw [q4a]; decide)
  have ef0 : w2 74 1 = w 74 1 := q4f _ _ (by unfold kFi; omega)
  show e_Ok 20 elay kcode eI (d + 1) 48 (6, [(0, (1, 8)), (1, (1, 6 * t + 154)), (2, (0, e))], [], w2) _
  refine e_Ok.run (t' := (8, [(0, (1, 8)), (1, (1, 6 * t + 154)), (2, (0, e))], [(0, e), (1, 6 * t + 154)], w2)) 2 rfl ?_
  refine e_Ok.putf rfl (lT0 (t := t) (by omega) (by omega)) rfl rfl ?_
  generalize hw7 : e_up w2 (6 * t + 154) 5 e = w7
  have f8 : e_fr (kFb t a) w w7 := e_fr.up f5 hw7 (by unfold kFb; omega)
  have hT9 : e_Has kTy w7 := e_Has.upr q4T hw7 (kT_5 (t := t) (by omega) (by omega)) (by omega)
  refine e_Ok.run (t' := (12, [(0, (1, 8)), (1, (1, 6 * t + 154)), (2, (0, e))], [(1, 8)], w7)) 1 rfl ?_
  refine e_Ok.getr (z := 74) rfl (el_o rfl) rfl rfl (by rw [← hw7]; exact (e_up_ne _ _ (Or.inr (by omega))).trans ((q4f 8 3 (by unfold kFi; omega)).trans (Eq.trans (e_Has.eq hT rfl) (by omega)))) (by omega) ?_
  refine e_Ok.run (t' := (17, [(0, (1, 8)), (1, (1, 6 * t + 154)), (2, (0, e))], [(1, 6 * t + 154), (0, 5), (1, 74)], w7)) 2 rfl ?_
  refine e_Ok.getf (z := t) rfl (lT0 (t := t) (by omega) (by omega)) rfl rfl (by rw [← hw7]; exact (e_up_ne _ _ (Or.inr (by omega))).trans ((q4f (6 * t + 154) 0 (by unfold kFi; omega)).trans (Eq.trans (e_Has.eq hT (kT_0 (t := t) (by omega) (by omega))) (by omega)))) (by omega) ?_
  refine e_Ok.run (t' := (21, [(0, (1, 8)), (1, (1, 6 * t + 154)), (2, (0, e))], [(0, e), (0, t), (0, 5), (1, 74)], w7)) 1 rfl ?_
  refine e_Ok.callV rfl (by omega) rfl rfl rfl rfl (c_27 hT9 (by omega) (by omega) (by omega) (by rw [← hw7, e_up_ne _ _ (by omega), ef0]; omega)) (fun r10 w11 h12 => ?_)
  obtain ⟨rfl, q13f, q13T, q13x⟩ := h12
  have f14 : e_fr (kFb t a) w w11 := e_fr.trans f8 (e_fr.mono q13f (fun c k q => by unfold kLg at q; unfold kFb; omega))
  have Q16 := kI.hu Q6 hT9 hw7 (hm_t (by omega) (by omega))
  have Q15 := kI.lg Q16 q13T (e_fr.mono q13f (fun c k g => lh_kLg g)) (q13x.2 Q16.lgk)
  have ef1 : w7 74 1 = w2 74 1 := by rw [← hw7, e_up_ne _ _ (by omega)]
  have ef2 := q13x.1
  show e_Ok 20 elay kcode eI (d + 1) 48 (24, [(0, (1, 8)), (1, (1, 6 * t + 154)), (2, (0, e))], [], w11) _
  refine e_Ok.run (t' := (26, [(0, (1, 8)), (1, (1, 6 * t + 154)), (2, (0, e))], [(1, 6 * t + 154), (1, 8)], w11)) 2 rfl ?_
  refine e_Ok.callV rfl (by omega) rfl rfl rfl rfl (c_50 (by omega) (t := t) q13T (by omega) Q15) (fun r17 w18 h19 => ?_)
  obtain ⟨rfl, q20f, q20T⟩ := h19
  have f21 : e_fr (kFb t a) w w18 := e_fr.trans f14 (e_fr.mono q20f (fun c k q => by unfold kLk at q; unfold kFb; omega))
  have Q22 := kI.hm Q15 q20T (e_fr.mono q20f (fun c k g => hm_kLk g))
  have ef3 : w18 74 1 = w11 74 1 := q20f _ _ (by unfold kLk; omega)
  show e_Ok 20 elay kcode eI (d + 1) 48 (29, [(0, (1, 8)), (1, (1, 6 * t + 154)), (2, (0, e))], [], w18) _
  refine e_Ok.run (t' := (31, [(0, (1, 8)), (1, (1, 6 * t + 154)), (2, (0, e))], [(1, 6 * t + 154), (1, 8)], w18)) 2 rfl ?_
  refine e_Ok.getf (z := a) rfl (lT0 (t := t) (by omega) (by omega)) rfl rfl ((q20f (6 * t + 154) 2 (by unfold kLk; omega)).trans ((q13f (6 * t + 154) 2 (by unfold kLg; omega)).trans (by rw [← hw7]; exact (e_up_ne _ _ (Or.inr (by omega))).trans ((q4f (6 * t + 154) 2 (by unfold kFi; omega)).trans ha)))) (by omega) ?_
  refine e_Ok.callV rfl (by omega) rfl rfl rfl rfl (c_40 (by omega) q20T (by omega) Q22 (by omega)) (fun r23 w24 h25 => ?_)
  obtain ⟨rfl, q26f, q26T, q26x⟩ := h25
  have f27 : e_fr (kFb t a) w w24 := e_fr.trans f21 (e_fr.mono q26f (fun c k q => by unfold kBa at q; unfold kFb; omega))
  have ef4 := q26x.2
  show e_Ok 20 elay kcode eI (d + 1) 48 (37, [(0, (1, 8)), (1, (1, 6 * t + 154)), (2, (0, e))], [], w24) _
  refine e_Ok.run (t' := (38, [(0, (1, 8)), (1, (1, 6 * t + 154)), (2, (0, e))], [(1, 8)], w24)) 1 rfl ?_
  refine e_Ok.getr (z := 9) rfl (el_o rfl) rfl rfl ((q26f 8 0 (by unfold kBa; omega)).trans ((q20f 8 0 (by unfold kLk; omega)).trans ((q13f 8 0 (by unfold kLg; omega)).trans (by rw [← hw7]; exact (e_up_ne _ _ (Or.inr (by omega))).trans ((q4f 8 0 (by unfold kFi; omega)).trans (Eq.trans (e_Has.eq hT rfl) (by omega))))))) (by omega) ?_
  refine e_Ok.run (t' := (42, [(0, (1, 8)), (1, (1, 6 * t + 154)), (2, (0, e))], [(1, 6 * t + 154), (1, 9)], w24)) 1 rfl ?_
  refine e_Ok.getf (z := a) rfl (lT0 (t := t) (by omega) (by omega)) rfl rfl ((q26f (6 * t + 154) 2 (by unfold kBa; omega)).trans ((q20f (6 * t + 154) 2 (by unfold kLk; omega)).trans ((q13f (6 * t + 154) 2 (by unfold kLg; omega)).trans (by rw [← hw7]; exact (e_up_ne _ _ (Or.inr (by omega))).trans ((q4f (6 * t + 154) 2 (by unfold kFi; omega)).trans ha))))) (by omega) ?_
  refine e_Ok.aald (z := 17 * a + 86) rfl (el_o rfl) rfl (by omega) ((q26f 9 a (by unfold kBa; omega)).trans ((q20f 9 a (by unfold kLk; omega)).trans ((q13f 9 a (by unfold kLg; omega)).trans (by rw [← hw7]; exact (e_up_ne _ _ (Or.inl (by omega))).trans ((q4f 9 a (by unfold kFi; omega)).trans (Eq.trans (e_Has.eq hT (k9 (by omega))) (by omega))))))) (by omega) ?_
  refine e_Ok.run (t' := (47, [(0, (1, 8)), (1, (1, 6 * t + 154)), (2, (0, e))], [(1, 6 * t + 154), (1, 17 * a + 86)], w24)) 1 rfl ?_
  refine e_Ok.getf (z := t) rfl (lT0 (t := t) (by omega) (by omega)) rfl rfl ((q26f (6 * t + 154) 0 (by unfold kBa; omega)).trans ((q20f (6 * t + 154) 0 (by unfold kLk; omega)).trans ((q13f (6 * t + 154) 0 (by unfold kLg; omega)).trans (by rw [← hw7]; exact (e_up_ne _ _ (Or.inr (by omega))).trans ((q4f (6 * t + 154) 0 (by unfold kFi; omega)).trans (Eq.trans (e_Has.eq hT (kT_0 (t := t) (by omega) (by omega))) (by omega))))))) (by omega) ?_
  refine e_Ok.putf rfl (lA0 (a := a) (by omega) (by omega)) rfl rfl ?_
  generalize hw28 : e_up w24 (17 * a + 86) 16 t = w28
  have f29 : e_fr (kFb t a) w w28 := e_fr.up f27 hw28 (by unfold kFb; omega)
  have hT30 : e_Has kTy w28 := e_Has.upr q26T hw28 (kA_16 (a := a) (by omega) (by omega)) (by omega)
  refine e_Ok.rets rfl rfl ?_
  have Q31 := kI.hu q26x.1 hT30 hw28 (hm_a (by omega) (by omega))
  have ef5 : w28 74 1 = w24 74 1 := by rw [← hw28]; exact e_up_ne _ _ (by omega)
  exact ⟨rfl, f29, hT30, ⟨Q31, Eq.trans (show w28 (6 * t + 154) 1 = w2 (6 * t + 154) 1 from (by rw [← hw28]; exact (e_up_ne _ _ (Or.inr (by omega))).trans ((q26f (6 * t + 154) 1 (by unfold kBa; omega)).trans ((q20f (6 * t + 154) 1 (by unfold kLk; omega)).trans ((q13f (6 * t + 154) 1 (by unfold kLg; omega)).trans (by rw [← hw7]; exact (e_up_ne _ _ (Or.inr (by omega))).trans rfl)))))) q4a, by omega⟩⟩
theorem c_49 {d : Nat} (hd : 23 ≤ d) {w : eW} (hT : e_Has kTy w) {t : Int} (g_t : 0 ≤ t ∧ t ≤ 15) {OP OD CL : Int → Int → Int} {h : Int} (q : kI w OP OD CL h t) (ha : 0 ≤ w (6 * t + 154) 2) (he : w 74 1 < 2147483647) : e_Ok 20 elay kcode eI d 49 (0, [(0, (1, 8)), (1, (1, 6 * t + 154))], [], w) (fun r w' => r = [] ∧ e_fr (kEl t) w w' ∧ e_Has kTy w' ∧ (kI w' OP OD CL h t ∧ w 74 1 ≤ w' 74 1 ∧ w' 74 1 ≤ w 74 1 + 1 ∧ ((w' = w ∧ 0 < w (6 * t + 154) 4) ∨ w' (6 * t + 154) 1 = 6))) := by
  obtain ⟨d, rfl⟩ : ∃ e, d = e + 1 := ⟨d - 1, by omega⟩
  have h74 := e_Has.get hT (c := 74) (k := 1) (lo := 0) (hi := 2147483647) rfl (by decide)
  have h2 := e_Has.get hT (c := 6 * t + 154) (k := 2) (lo := -1) (hi := 3) (kT_2 (t := t) rfl (by omega)) (by decide)
  refine e_Ok.run (t' := (1, [(0, (1, 8)), (1, (1, 6 * t + 154))], [(1, 6 * t + 154)], w)) 1 rfl ?_
  have h1 := (e_Has.get hT (c := 6 * t + 154) (k := 4) (lo := 0) (hi := 20) (kT_4 (t := t) (by omega) (by omega)) (by decide))
  refine e_Ok.getf (z := w (6 * t + 154) 4) rfl (lT0 (t := t) (by omega) (by omega)) rfl rfl rfl (by omega) ?_
  refine e_Ok.if1 rfl (fun h2 => ?_) (fun h2 => ?_)
  · replace h2 : (w (6 * t + 154) 4 : Int) ≤ 0 := h2
    refine e_Ok.run (t' := (11, [(0, (1, 8)), (1, (1, 6 * t + 154))], [(0, 6), (1, 6 * t + 154)], w)) 2 rfl ?_
    refine e_Ok.callV rfl (by omega) rfl (lT0 (t := t) (by omega) (by omega)) rfl rfl (c_181 (t := t) (op := fun x => x) hT (by omega) (by omega)) (fun r3 w4 h5 => ?_)
    obtain ⟨rfl, q6f, q6T, q6a, q6b, q6c⟩ := h5
    have f7 : e_fr (kEl t) w w4 := e_fr.trans (e_fr.refl w) (e_fr.mono q6f (fun c k q => by unfold kFi at q; unfold kEl; omega))
    have Q8 := kI.fin q q6T (by omega) (by omega) q6f (by rw [q6a]; decide)
    have ef0 : w4 74 1 = w 74 1 := q6f _ _ (by unfold kFi; omega)
    show e_Ok 20 elay kcode eI (d + 1) 49 (14, [(0, (1, 8)), (1, (1, 6 * t + 154))], [], w4) _
    refine e_Ok.run (t' := (15, [(0, (1, 8)), (1, (1, 6 * t + 154))], [(1, 8)], w4)) 1 rfl ?_
    refine e_Ok.getr (z := 74) rfl (el_o rfl) rfl rfl ((q6f 8 3 (by unfold kFi; omega)).trans (Eq.trans (e_Has.eq hT rfl) (by omega))) (by omega) ?_
    refine e_Ok.run (t' := (20, [(0, (1, 8)), (1, (1, 6 * t + 154))], [(1, 6 * t + 154), (0, 4), (1, 74)], w4)) 2 rfl ?_
    refine e_Ok.getf (z := t) rfl (lT0 (t := t) (by omega) (by omega)) rfl rfl ((q6f (6 * t + 154) 0 (by unfold kFi; omega)).trans (Eq.trans (e_Has.eq hT (kT_0 (t := t) (by omega) (by omega))) (by omega))) (by omega) ?_
    refine e_Ok.run (t' := (24, [(0, (1, 8)), (1, (1, 6 * t + 154))], [(0, 0), (0, t), (0, 4), (1, 74)], w4)) 1 rfl ?_
    refine e_Ok.callV rfl (by omega) rfl rfl rfl rfl (c_27 q6T (by omega) (by omega) (by omega) (by rw [ef0]; omega)) (fun r9 w10 h11 => ?_)
    obtain ⟨rfl, q12f, q12T, q12x⟩ := h11
    have f13 : e_fr (kEl t) w w10 := e_fr.trans f7 (e_fr.mono q12f (fun c k q => by unfold kLg at q; unfold kEl; omega))
    have Q14 := kI.lg Q8 q12T (e_fr.mono q12f (fun c k g => lh_kLg g)) (q12x.2 Q8.lgk)
    have ef2 := q12x.1
    show e_Ok 20 elay kcode eI (d + 1) 49 (27, [(0, (1, 8)), (1, (1, 6 * t + 154))], [], w10) _
    refine e_Ok.run (t' := (29, [(0, (1, 8)), (1, (1, 6 * t + 154))], [(1, 6 * t + 154), (1, 8)], w10)) 2 rfl ?_
    refine e_Ok.callV rfl (by omega) rfl rfl rfl rfl (c_50 (by omega) (t := t) q12T (by omega) Q14) (fun r15 w16 h17 => ?_)
    obtain ⟨rfl, q18f, q18T⟩ := h17
    have f19 : e_fr (kEl t) w w16 := e_fr.trans f13 (e_fr.mono q18f (fun c k q => by unfold kLk at q; unfold kEl; omega))
    have Q20 := kI.hm Q14 q18T (e_fr.mono q18f (fun c k g => hm_kLk g))
    have ef3 : w16 74 1 = w10 74 1 := q18f _ _ (by unfold kLk; omega)
    show e_Ok 20 elay kcode eI (d + 1) 49 (32, [(0, (1, 8)), (1, (1, 6 * t + 154))], [], w16) _
    refine e_Ok.rets rfl rfl ?_
    exact ⟨rfl, f19, q18T, ⟨Q20, by omega, by omega, Or.inr (Eq.trans (show w16 (6 * t + 154) 1 = w4 (6 * t + 154) 1 from ((q18f (6 * t + 154) 1 (by unfold kLk; omega)).trans ((q12f (6 * t + 154) 1 (by unfold kLg; omega)).trans rfl))) q6a)⟩⟩
  · replace h2 : (w (6 * t + 154) 4 : Int) > 0 := by have q : ¬ ((w (6 * t + 154) 4 : Int) ≤ 0) := h2; omega
    refine e_Ok.rets rfl rfl ?_
    exact ⟨rfl, (e_fr.refl w), hT, ⟨q, by omega, by omega, Or.inl ⟨rfl, by omega⟩⟩⟩
end
