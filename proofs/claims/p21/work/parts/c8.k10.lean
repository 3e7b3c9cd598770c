noncomputable section
/-! the class: what the doer does, small steps -/
def kDs (c k : Int) : Prop := (c = 8 ∧ (k = 8 ∨ k = 10 ∨ k = 11)) ∨ c = 84
def kDp (t : Int) (c k : Int) : Prop := (c = 8 ∧ (k = 8 ∨ k = 10 ∨ k = 11)) ∨ c = 84 ∨ (c = 6 * t + 154 ∧ k = 3)
section E62k
variable {fd : Nat} {lay : List eY} {code : Nat → Nat → eE} {I : Nat → xM} {d M k a b p : Nat} {l : eL} {r : List eV} {w : eW} {Q : List eV → eW → Prop}
theorem e_Ok.swk {x : Int} {tg : Nat} {arms : List (Int × Int × Nat)} (hc : code M p = (0, ei_sw arms, a, b)) (ht : e_arm x arms = some tg) (h : e_Ok fd lay code I d M (tg, l, r, w) Q) : e_Ok fd lay code I d M (p, l, (0, x) :: r, w) Q := by
  refine e_Ok.step hc ?_ h
  unfold ei_sw
  simp only [ht]
end E62k
/-- the numbers in hand are known -/
def sK (w : eW) : Prop := (0 ≤ w 8 8 ∧ w 8 8 ≤ 128) ∧ (∀ i, 0 ≤ i → i < w 8 8 → -2147483648 ≤ w 84 i ∧ w 84 i ≤ 2147483647) ∧ (0 ≤ w 8 11 ∧ w 8 11 ≤ 1) ∧ (w 8 11 = 1 → -2147483648 ≤ w 8 10 ∧ w 8 10 ≤ 2147483647)
theorem sK.fr {S : Int → Int → Prop} {w w' : eW} (f : e_fr S w w') (h1 : ¬ S 8 8 ∧ ¬ S 8 10 ∧ ¬ S 8 11) (h2 : ∀ k, ¬ S 84 k) (h : sK w) : sK w' := by
  unfold sK at h ⊢
  rw [f _ _ h1.1, f _ _ h1.2.1, f _ _ h1.2.2]
  exact ⟨h.1, fun i g1 g2 => by rw [f _ _ (h2 i)]; exact h.2.1 i g1 g2, h.2.2⟩
theorem sK.push {w w1 w' : eW} {i n v : Int} (h : sK w) (hi : i = w 8 8) (hn : n = w 8 8 + 1) (hl : w 8 8 < 128) (hv : -2147483648 ≤ v ∧ v ≤ 2147483647) (h1 : e_up w 84 i v = w1) (h2 : e_up w1 8 8 n = w') : sK w' := by
  have e : ∀ k, k ≠ 8 → w' 8 k = w 8 k := fun k g => by rw [← h2, e_up_ne _ _ (Or.inr g), ← h1]; exact e_up_ne _ _ (by omega)
  have e8 : w' 8 8 = w 8 8 + 1 := by rw [← h2, e_up_eq, hn]
  have h0 := h.1
  refine ⟨by rw [e8]; omega, fun j g1 g2 => ?_, by rw [e 11 (by decide)]; exact h.2.2.1, by rw [e 11 (by decide), e 10 (by decide)]; exact h.2.2.2⟩
  rw [e8] at g2
  rw [← h2, e_up_ne _ _ (by omega), ← h1]
  by_cases q : j = i
  · rw [q, e_up_eq]; exact hv
  · rw [e_up_ne _ _ (Or.inr q)]; exact h.2.1 j g1 (by omega)
theorem sK.pop {w w' : eW} {n : Int} (h : sK w) (hn : n = w 8 8 - 1) (hl : 1 ≤ w 8 8) (h2 : e_up w 8 8 n = w') : sK w' := by
  have e : ∀ c k, ¬ (c = 8 ∧ k = 8) → w' c k = w c k := fun c k g => by rw [← h2]; exact e_up_ne _ _ (by omega)
  have e8 : w' 8 8 = w 8 8 - 1 := by rw [← h2, e_up_eq, hn]
  have h0 := h.1
  refine ⟨by rw [e8]; omega, fun j g1 g2 => ?_, by rw [e 8 11 (by omega)]; exact h.2.2.1, by rw [e 8 11 (by omega), e 8 10 (by omega)]; exact h.2.2.2⟩
  rw [e8] at g2
  rw [e 84 j (by omega)]
  exact h.2.1 j g1 (by omega)
theorem sK.raise {w w1 w' : eW} {v : Int} (h : sK w) (hv : -2147483648 ≤ v ∧ v ≤ 2147483647) (h1 : e_up w 8 11 1 = w1) (h2 : e_up w1 8 10 v = w') : sK w' := by
  have e : ∀ c k, ¬ (c = 8 ∧ (k = 10 ∨ k = 11)) → w' c k = w c k := fun c k g => by rw [← h2, e_up_ne _ _ (by omega), ← h1]; exact e_up_ne _ _ (by omega)
  have e11 : w' 8 11 = 1 := by rw [← h2, e_up_ne _ _ (by omega), ← h1]; exact e_up_eq _ _ _ _
  have e10 : w' 8 10 = v := by rw [← h2]; exact e_up_eq _ _ _ _
  refine ⟨by rw [e 8 8 (by omega)]; exact h.1, fun j g1 g2 => ?_, by rw [e11]; decide, fun _ => by rw [e10]; exact hv⟩
  rw [e 8 8 (by omega)] at g2
  rw [e 84 j (by omega)]
  exact h.2.1 j g1 g2
theorem c_52 {d : Nat} {w : eW} (hT : e_Has kTy w) {v : Int} (g_v : (-2147483648) ≤ v ∧ v ≤ 2147483647) (hk : sK w) : e_Ok 20 elay kcode eI d 52 (0, [(0, (1, 8)), (1, (0, v))], [], w) (fun r w' => r = [] ∧ e_fr kDs w w' ∧ e_Has kTy w' ∧ sK w') := by
  have hk0 := hk.1
  refine e_Ok.run (t' := (1, [(0, (1, 8)), (1, (0, v))], [(1, 8)], w)) 1 rfl ?_
  refine e_Ok.getf (z := w 8 8) rfl (el_o rfl) rfl rfl rfl (by omega) ?_
  refine e_Ok.run (t' := (5, [(0, (1, 8)), (1, (0, v))], [(1, 8), (0, w 8 8)], w)) 1 rfl ?_
  refine e_Ok.getr (z := 84) rfl (el_o rfl) rfl rfl (Eq.trans (e_Has.eq hT rfl) (by omega)) (by omega) ?_
  refine e_Ok.alen rfl rfl rfl ?_
  refine e_Ok.if2 rfl (fun h1 => ?_) (fun h1 => ?_)
  · replace h1 : (w 8 8 : Int) < 128 := h1
    refine e_Ok.run (t' := (14, [(0, (1, 8)), (1, (0, v))], [(1, 8)], w)) 1 rfl ?_
    refine e_Ok.getr (z := 84) rfl (el_o rfl) rfl rfl (Eq.trans (e_Has.eq hT rfl) (by omega)) (by omega) ?_
    refine e_Ok.run (t' := (18, [(0, (1, 8)), (1, (0, v))], [(1, 8), (1, 84)], w)) 1 rfl ?_
    refine e_Ok.getf (z := w 8 8) rfl (el_o rfl) rfl rfl rfl (by omega) ?_
    refine e_Ok.run (t' := (22, [(0, (1, 8)), (1, (0, v))], [(0, v), (0, w 8 8), (1, 84)], w)) 1 rfl ?_
    refine e_Ok.ast rfl (el_o rfl) rfl rfl (by omega) ?_
    generalize hw2 : e_up w 84 (w 8 8) v = w2
    have f3 : e_fr kDs w w2 := e_fr.up (e_fr.refl w) hw2 (by unfold kDs; omega)
    have hT4 : e_Has kTy w2 := e_Has.ups hT hw2 rfl
    refine e_Ok.run (t' := (25, [(0, (1, 8)), (1, (0, v))], [(1, 8), (1, 8)], w2)) 2 rfl ?_
    refine e_Ok.getf (z := w 8 8) rfl (el_o rfl) rfl rfl (by rw [← hw2]; exact (e_up_ne _ _ (Or.inl (by omega))).trans rfl) (by omega) ?_
    refine e_Ok.run (t' := (29, [(0, (1, 8)), (1, (0, v))], [(0, 1), (0, w 8 8), (1, 8)], w2)) 1 rfl ?_
    refine e_Ok.add (z := w 8 8 + 1) rfl (by omega) (by omega) ?_
    refine e_Ok.putf rfl (el_o rfl) rfl rfl ?_
    generalize hw5 : e_up w2 8 8 (w 8 8 + 1) = w5
    have f6 : e_fr kDs w w5 := e_fr.up f3 hw5 (by unfold kDs; omega)
    have hT7 : e_Has kTy w5 := e_Has.ups hT4 hw5 rfl
    refine e_Ok.rets rfl rfl ?_
    exact ⟨rfl, f6, hT7, sK.push hk (by omega) (by omega) (by omega) (by omega) hw2 hw5⟩
  · replace h1 : (w 8 8 : Int) ≥ 128 := by have q : ¬ ((w 8 8 : Int) < 128) := h1; omega
    refine e_Ok.rets rfl rfl ?_
    exact ⟨rfl, (e_fr.refl w), hT, hk⟩
theorem c_53 {d : Nat} {w : eW} (hT : e_Has kTy w) (hk : sK w) : e_Ok 20 elay kcode eI d 53 (0, [(0, (1, 8))], [], w) (fun r w' => ∃ z : Int, r = [(0, z)] ∧ e_fr kDs w w' ∧ e_Has kTy w' ∧ ((-2147483648) ≤ z ∧ z ≤ 2147483647) ∧ sK w') := by
  have hk0 := hk.1
  refine e_Ok.run (t' := (1, [(0, (1, 8))], [(1, 8)], w)) 1 rfl ?_
  refine e_Ok.getf (z := w 8 8) rfl (el_o rfl) rfl rfl rfl (by omega) ?_
  refine e_Ok.run (t' := (5, [(0, (1, 8))], [(0, 1), (0, w 8 8)], w)) 1 rfl ?_
  refine e_Ok.if2 rfl (fun h1 => ?_) (fun h1 => ?_)
  · replace h1 : (w 8 8 : Int) ≥ 1 := h1
    have hk1 := hk.2.1 (w 8 8 - 1) (by omega) (by omega)
    refine e_Ok.run (t' := (12, [(0, (1, 8))], [(1, 8), (1, 8)], w)) 2 rfl ?_
    refine e_Ok.getf (z := w 8 8) rfl (el_o rfl) rfl rfl rfl (by omega) ?_
    refine e_Ok.run (t' := (16, [(0, (1, 8))], [(0, 1), (0, w 8 8), (1, 8)], w)) 1 rfl ?_
    refine e_Ok.sub' (z := w 8 8 - 1) rfl (by omega) (by omega) ?_
    refine e_Ok.putf rfl (el_o rfl) rfl rfl ?_
    generalize hw2 : e_up w 8 8 (w 8 8 - 1) = w2
    have f3 : e_fr kDs w w2 := e_fr.up (e_fr.refl w) hw2 (by unfold kDs; omega)
    have hT4 : e_Has kTy w2 := e_Has.ups hT hw2 rfl
    refine e_Ok.run (t' := (21, [(0, (1, 8))], [(1, 8)], w2)) 1 rfl ?_
    refine e_Ok.getr (z := 84) rfl (el_o rfl) rfl rfl (by rw [← hw2]; exact (e_up_ne _ _ (Or.inr (by omega))).trans (Eq.trans (e_Has.eq hT rfl) (by omega))) (by omega) ?_
    refine e_Ok.run (t' := (25, [(0, (1, 8))], [(1, 8), (1, 84)], w2)) 1 rfl ?_
    refine e_Ok.getf (z := w 8 8 - 1) rfl (el_o rfl) rfl rfl (by rw [← hw2]; exact e_up_eq _ _ _ _) (by omega) ?_
    refine e_Ok.ald (z := w 84 (w 8 8 - 1)) rfl (el_o rfl) rfl (by omega) (by rw [← hw2]; exact (e_up_ne _ _ (Or.inl (by omega))).trans rfl) (by omega) ?_
    refine e_Ok.rets rfl rfl ?_
    exact ⟨_, rfl, f3, hT4, ⟨by omega, by omega⟩, sK.pop hk (by omega) (by omega) hw2⟩
  · replace h1 : (w 8 8 : Int) < 1 := by have q : ¬ ((w 8 8 : Int) ≥ 1) := h1; omega
    refine e_Ok.run (t' := (9, [(0, (1, 8))], [(0, 0)], w)) 1 rfl ?_
    refine e_Ok.rets rfl rfl ?_
    exact ⟨_, rfl, (e_fr.refl w), hT, ⟨by omega, by omega⟩, hk⟩
theorem c_46 {d : Nat} {w : eW} (hT : e_Has kTy w) {v : Int} (g_v : (-2147483648) ≤ v ∧ v ≤ 2147483647) (hk : sK w) : e_Ok 20 elay kcode eI d 46 (0, [(0, (1, 8)), (1, (0, v))], [], w) (fun r w' => r = [] ∧ e_fr kDs w w' ∧ e_Has kTy w' ∧ sK w') := by
  refine e_Ok.run (t' := (2, [(0, (1, 8)), (1, (0, v))], [(0, 1), (1, 8)], w)) 2 rfl ?_
  refine e_Ok.putb rfl (el_o rfl) rfl rfl (by omega) ?_
  generalize hw1 : e_up w 8 11 1 = w1
  have f2 : e_fr kDs w w1 := e_fr.up (e_fr.refl w) hw1 (by unfold kDs; omega)
  have hT3 : e_Has kTy w1 := e_Has.ups hT hw1 rfl
  refine e_Ok.run (t' := (7, [(0, (1, 8)), (1, (0, v))], [(0, v), (1, 8)], w1)) 2 rfl ?_
  refine e_Ok.putf rfl (el_o rfl) rfl rfl ?_
  generalize hw4 : e_up w1 8 10 v = w4
  have f5 : e_fr kDs w w4 := e_fr.up f2 hw4 (by unfold kDs; omega)
  have hT6 : e_Has kTy w4 := e_Has.ups hT3 hw4 rfl
  refine e_Ok.rets rfl rfl ?_
  exact ⟨rfl, f5, hT6, sK.raise hk (by omega) hw1 hw4⟩
theorem c_245 {d : Nat} (hd : 21 ≤ d) {w : eW} {a : Int} (g1 : -2147483648 ≤ a ∧ a ≤ 2147483647) : e_Ok 20 elay kcode eI d 245 (0, [(0, (0, a))], [], w) (fun r w' => ∃ z : Int, r = [(0, z)] ∧ w = w' ∧ ((z = 1 ∧ 0 ≤ a ∧ a ≤ 63) ∨ (z = 0 ∧ (a < 0 ∨ 63 < a)))) := by
  obtain ⟨d, rfl⟩ : ∃ e, d = e + 1 := ⟨d - 1, by omega⟩
  refine e_Ok.run (t' := (4, [(0, (0, a))], [(0, 63), (0, 0), (0, a)], w)) 3 rfl ?_
  refine e_Ok.callS rfl (by omega) rfl rfl (c_242 (by omega) (by omega) (by omega)) (fun r1 w2 h3 => ?_)
  obtain ⟨z4, rfl, rfl, q5⟩ := h3
  obtain ⟨rfl, q5⟩ | ⟨rfl, q5⟩ := q5
  · show e_Ok 20 elay kcode eI (d + 1) 245 (7, [(0, (0, a))], [(0, 1)], w) _
    refine e_Ok.rets rfl rfl ?_
    exact ⟨_, rfl, rfl, Or.inl ⟨rfl, by omega, by omega⟩⟩
  · show e_Ok 20 elay kcode eI (d + 1) 245 (7, [(0, (0, a))], [(0, 0)], w) _
    refine e_Ok.rets rfl rfl ?_
    exact ⟨_, rfl, rfl, Or.inr ⟨rfl, by omega⟩⟩
theorem c_55 {d : Nat} (hd : 22 ≤ d) {w : eW} (hT : e_Has kTy w) {v : Int} (g_v : (-2147483648) ≤ v ∧ v ≤ 2147483647) (hk : sK w) : e_Ok 20 elay kcode eI d 55 (0, [(0, (1, 8)), (1, (0, v))], [], w) (fun r w' => r = [] ∧ e_fr kDs w w' ∧ e_Has kTy w' ∧ sK w') := by
  obtain ⟨d, rfl⟩ : ∃ e, d = e + 1 := ⟨d - 1, by omega⟩
  refine e_Ok.run (t' := (1, [(0, (1, 8)), (1, (0, v))], [(0, v)], w)) 1 rfl ?_
  refine e_Ok.callS rfl (by omega) rfl rfl (c_245 (by omega) (by omega)) (fun r1 w2 h3 => ?_)
  obtain ⟨z4, rfl, rfl, q5⟩ := h3
  obtain ⟨rfl, q5⟩ | ⟨rfl, q5⟩ := q5
  · show e_Ok 20 elay kcode eI (d + 1) 55 (4, [(0, (1, 8)), (1, (0, v))], [(0, 1)], w) _
    refine e_Ok.if1 rfl (fun h6 => ?_) (fun h6 => ?_)
    · replace h6 : (1 : Int) = 0 := h6
      exfalso; omega
    · replace h6 : (1 : Int) ≠ 0 := by have q : ¬ ((1 : Int) = 0) := h6; omega
      refine e_Ok.run (t' := (9, [(0, (1, 8)), (1, (0, v))], [(1, 8), (1, 8)], w)) 2 rfl ?_
      refine e_Ok.getr (z := 10) rfl (el_o rfl) rfl rfl (Eq.trans (e_Has.eq hT rfl) (by omega)) (by omega) ?_
      refine e_Ok.getr (z := 12) rfl (el_o rfl) rfl rfl (Eq.trans (e_Has.eq hT rfl) (by omega)) (by omega) ?_
      refine e_Ok.run (t' := (16, [(0, (1, 8)), (1, (0, v))], [(0, v), (1, 12), (1, 8)], w)) 1 rfl ?_
      have h7 := (e_Has.get hT (c := 12) (k := v) (lo := (-2147483648)) (hi := 2147483647) rfl (by decide))
      refine e_Ok.ald (z := w 12 v) rfl (el_o rfl) rfl (by omega) rfl (by omega) ?_
      refine e_Ok.callV rfl (by omega) rfl rfl rfl rfl (c_52 hT (by omega) hk) (fun r8 w9 h10 => ?_)
      obtain ⟨rfl, q11f, q11T, q11x⟩ := h10
      have f12 : e_fr kDs w w9 := e_fr.trans (e_fr.refl w) (e_fr.mono q11f (fun c k q => by exact q))
      show e_Ok 20 elay kcode eI (d + 1) 55 (20, [(0, (1, 8)), (1, (0, v))], [], w9) _
      refine e_Ok.run (t' := (28, [(0, (1, 8)), (1, (0, v))], [], w9)) 1 rfl ?_
      refine e_Ok.rets rfl rfl ?_
      exact ⟨rfl, f12, q11T, q11x⟩
  · show e_Ok 20 elay kcode eI (d + 1) 55 (4, [(0, (1, 8)), (1, (0, v))], [(0, 0)], w) _
    refine e_Ok.if1 rfl (fun h13 => ?_) (fun h13 => ?_)
    · replace h13 : (0 : Int) = 0 := h13
      refine e_Ok.run (t' := (25, [(0, (1, 8)), (1, (0, v))], [(0, 2), (1, 8)], w)) 2 rfl ?_
      refine e_Ok.callV rfl (by omega) rfl rfl rfl rfl (c_46 hT (by omega) hk) (fun r14 w15 h16 => ?_)
      obtain ⟨rfl, q17f, q17T, q17x⟩ := h16
      have f18 : e_fr kDs w w15 := e_fr.trans (e_fr.refl w) (e_fr.mono q17f (fun c k q => by exact q))
      show e_Ok 20 elay kcode eI (d + 1) 55 (28, [(0, (1, 8)), (1, (0, v))], [], w15) _
      refine e_Ok.rets rfl rfl ?_
      exact ⟨rfl, f18, q17T, q17x⟩
    · replace h13 : (0 : Int) ≠ 0 := by have q : ¬ ((0 : Int) = 0) := h13; omega
      exfalso; omega
theorem c_56 {d : Nat} (hd : 22 ≤ d) {w : eW} (hT : e_Has kTy w) {a v : Int} (g_a : 0 ≤ a ∧ a ≤ 3) (g_v : (-2147483648) ≤ v ∧ v ≤ 2147483647) (hk : sK w) : e_Ok 20 elay kcode eI d 56 (0, [(0, (1, 8)), (1, (1, 17 * a + 86)), (2, (0, v))], [], w) (fun r w' => r = [] ∧ e_fr kDs w w' ∧ e_Has kTy w' ∧ sK w') := by
  obtain ⟨d, rfl⟩ : ∃ e, d = e + 1 := ⟨d - 1, by omega⟩
  refine e_Ok.run (t' := (3, [(0, (1, 8)), (1, (1, 17 * a + 86)), (2, (0, v))], [(1, 17 * a + 86), (0, 0), (0, v)], w)) 3 rfl ?_
  have h1 := (e_Has.get hT (c := 17 * a + 86) (k := 8) (lo := 0) (hi := 6) (kA_8 (a := a) (by omega) (by omega)) (by decide))
  refine e_Ok.getf (z := w (17 * a + 86) 8) rfl (lA0 (a := a) (by omega) (by omega)) rfl rfl rfl (by omega) ?_
  refine e_Ok.run (t' := (7, [(0, (1, 8)), (1, (1, 17 * a + 86)), (2, (0, v))], [(0, 1), (0, w (17 * a + 86) 8), (0, 0), (0, v)], w)) 1 rfl ?_
  refine e_Ok.sub' (z := w (17 * a + 86) 8 - 1) rfl (by omega) (by omega) ?_
  refine e_Ok.callS rfl (by omega) rfl rfl (c_242 (by omega) (by omega) (by omega)) (fun r2 w3 h4 => ?_)
  obtain ⟨z5, rfl, rfl, q6⟩ := h4
  obtain ⟨rfl, q6⟩ | ⟨rfl, q6⟩ := q6
  · show e_Ok 20 elay kcode eI (d + 1) 56 (11, [(0, (1, 8)), (1, (1, 17 * a + 86)), (2, (0, v))], [(0, 1)], w) _
    refine e_Ok.if1 rfl (fun h7 => ?_) (fun h7 => ?_)
    · replace h7 : (1 : Int) = 0 := h7
      exfalso; omega
    · replace h7 : (1 : Int) ≠ 0 := by have q : ¬ ((1 : Int) = 0) := h7; omega
      refine e_Ok.run (t' := (16, [(0, (1, 8)), (1, (1, 17 * a + 86)), (2, (0, v))], [(1, 17 * a + 86), (1, 8)], w)) 2 rfl ?_
      refine e_Ok.getr (z := 17 * a + 87) rfl (lA0 (a := a) (by omega) (by omega)) rfl rfl (Eq.trans (e_Has.eq hT (kA_0 (a := a) (by omega) (by omega))) (by omega)) (by omega) ?_
      refine e_Ok.run (t' := (20, [(0, (1, 8)), (1, (1, 17 * a + 86)), (2, (0, v))], [(0, v), (1, 17 * a + 87), (1, 8)], w)) 1 rfl ?_
      refine e_Ok.aald (z := 17 * a + v + 97) rfl (lA1 (a := a) (by omega) (by omega)) rfl (by omega) (Eq.trans (e_Has.eq hT (kA87 (a := a) (by omega) (by omega) (by omega))) (by omega)) (by omega) ?_
      have h8 := (e_Has.get hT (c := 17 * a + v + 97) (k := 7) (lo := (-2147483648)) (hi := 2147483647) (kJ_7 (a := a) (j := v) (by omega) (by omega) (by omega)) (by decide))
      refine e_Ok.getf (z := w (17 * a + v + 97) 7) rfl (lJ (a := a) (j := v) (by omega) (by omega) (by omega)) rfl rfl rfl (by omega) ?_
      refine e_Ok.callV rfl (by omega) rfl rfl rfl rfl (c_52 hT (by omega) hk) (fun r9 w10 h11 => ?_)
      obtain ⟨rfl, q12f, q12T, q12x⟩ := h11
      have f13 : e_fr kDs w w10 := e_fr.trans (e_fr.refl w) (e_fr.mono q12f (fun c k q => by exact q))
      show e_Ok 20 elay kcode eI (d + 1) 56 (27, [(0, (1, 8)), (1, (1, 17 * a + 86)), (2, (0, v))], [], w10) _
      refine e_Ok.run (t' := (35, [(0, (1, 8)), (1, (1, 17 * a + 86)), (2, (0, v))], [], w10)) 1 rfl ?_
      refine e_Ok.rets rfl rfl ?_
      exact ⟨rfl, f13, q12T, q12x⟩
  · show e_Ok 20 elay kcode eI (d + 1) 56 (11, [(0, (1, 8)), (1, (1, 17 * a + 86)), (2, (0, v))], [(0, 0)], w) _
    refine e_Ok.if1 rfl (fun h14 => ?_) (fun h14 => ?_)
    · replace h14 : (0 : Int) = 0 := h14
      refine e_Ok.run (t' := (32, [(0, (1, 8)), (1, (1, 17 * a + 86)), (2, (0, v))], [(0, 2), (1, 8)], w)) 2 rfl ?_
      refine e_Ok.callV rfl (by omega) rfl rfl rfl rfl (c_46 hT (by omega) hk) (fun r15 w16 h17 => ?_)
      obtain ⟨rfl, q18f, q18T, q18x⟩ := h17
      have f19 : e_fr kDs w w16 := e_fr.trans (e_fr.refl w) (e_fr.mono q18f (fun c k q => by exact q))
      show e_Ok 20 elay kcode eI (d + 1) 56 (35, [(0, (1, 8)), (1, (1, 17 * a + 86)), (2, (0, v))], [], w16) _
      refine e_Ok.rets rfl rfl ?_
      exact ⟨rfl, f19, q18T, q18x⟩
    · replace h14 : (0 : Int) ≠ 0 := by have q : ¬ ((0 : Int) = 0) := h14; omega
      exfalso; omega
theorem c_58 {d : Nat} (hd : 22 ≤ d) {w : eW} (hT : e_Has kTy w) {o v u : Int} (g_o : 14 ≤ o ∧ o ≤ 24) (g_v : (-2147483648) ≤ v ∧ v ≤ 2147483647) (g_u : (-2147483648) ≤ u ∧ u ≤ 2147483647) (hk : sK w) : e_Ok 20 elay kcode eI d 58 (0, [(0, (1, 8)), (1, (0, o)), (2, (0, v)), (3, (0, u))], [], w) (fun r w' => r = [] ∧ e_fr kDs w w' ∧ e_Has kTy w' ∧ sK w') := by
  obtain ⟨d, rfl⟩ : ∃ e, d = e + 1 := ⟨d - 1, by omega⟩
  refine e_Ok.run (t' := (3, [(0, (1, 8)), (1, (0, o)), (2, (0, v)), (3, (0, u))], [(0, 17), (0, o)], w)) 2 rfl ?_
  refine e_Ok.if2 rfl (fun h1 => ?_) (fun h1 => ?_)
  · replace h1 : (o : Int) = 17 := h1
    refine e_Ok.run (t' := (13, [(0, (1, 8)), (1, (0, o)), (2, (0, v)), (3, (0, u))], [(0, v)], w)) 1 rfl ?_
    refine e_Ok.if1 rfl (fun h2 => ?_) (fun h2 => ?_)
    · replace h2 : (v : Int) ≠ 0 := h2
      refine e_Ok.run (t' := (23, [(0, (1, 8)), (1, (0, o)), (2, (0, v)), (3, (0, u))], [(0, o)], w)) 1 rfl ?_
      have hs4 : ∀ x : Int, 17 ≤ x ∧ x ≤ 17 → (x = 17) := fun x h => by omega
      obtain h3 := hs4 (o) (by omega)
      · refine e_Ok.swk (tg := 106) rfl (by rw [h3]; rfl) ?_
        refine e_Ok.run (t' := (108, [(0, (1, 8)), (1, (0, o)), (2, (0, v)), (3, (0, u))], [(0, v), (1, 8)], w)) 2 rfl ?_
        refine e_Ok.if1 rfl (fun h5 => ?_) (fun h5 => ?_)
        · replace h5 : (v : Int) ≠ 0 := h5
          refine e_Ok.run (t' := (117, [(0, (1, 8)), (1, (0, o)), (2, (0, v)), (3, (0, u))], [(0, v), (0, u), (1, 8)], w)) 2 rfl ?_
          refine e_Ok.any rfl (eF_div_any (by omega)) (fun z6 z6a z6b => ?_)
          refine e_Ok.callV rfl (by omega) rfl rfl rfl rfl (c_52 hT (by omega) hk) (fun r7 w8 h9 => ?_)
          obtain ⟨rfl, q10f, q10T, q10x⟩ := h9
          have f11 : e_fr kDs w w8 := e_fr.trans (e_fr.refl w) (e_fr.mono q10f (fun c k q => by exact q))
          show e_Ok 20 elay kcode eI (d + 1) 58 (121, [(0, (1, 8)), (1, (0, o)), (2, (0, v)), (3, (0, u))], [], w8) _
          refine e_Ok.run (t' := (241, [(0, (1, 8)), (1, (0, o)), (2, (0, v)), (3, (0, u))], [], w8)) 1 rfl ?_
          refine e_Ok.rets rfl rfl ?_
          exact ⟨rfl, f11, q10T, q10x⟩
        · replace h5 : (v : Int) = 0 := by have q : ¬ ((v : Int) ≠ 0) := h5; omega
          refine e_Ok.run (t' := (118, [(0, (1, 8)), (1, (0, o)), (2, (0, v)), (3, (0, u))], [(0, 0), (1, 8)], w)) 2 rfl ?_
          refine e_Ok.callV rfl (by omega) rfl rfl rfl rfl (c_52 hT (by omega) hk) (fun r12 w13 h14 => ?_)
          obtain ⟨rfl, q15f, q15T, q15x⟩ := h14
          have f16 : e_fr kDs w w13 := e_fr.trans (e_fr.refl w) (e_fr.mono q15f (fun c k q => by exact q))
          show e_Ok 20 elay kcode eI (d + 1) 58 (121, [(0, (1, 8)), (1, (0, o)), (2, (0, v)), (3, (0, u))], [], w13) _
          refine e_Ok.run (t' := (241, [(0, (1, 8)), (1, (0, o)), (2, (0, v)), (3, (0, u))], [], w13)) 1 rfl ?_
          refine e_Ok.rets rfl rfl ?_
          exact ⟨rfl, f16, q15T, q15x⟩
    · replace h2 : (v : Int) = 0 := by have q : ¬ ((v : Int) ≠ 0) := h2; omega
      refine e_Ok.run (t' := (18, [(0, (1, 8)), (1, (0, o)), (2, (0, v)), (3, (0, u))], [(0, 1), (1, 8)], w)) 2 rfl ?_
      refine e_Ok.callV rfl (by omega) rfl rfl rfl rfl (c_46 hT (by omega) hk) (fun r17 w18 h19 => ?_)
      obtain ⟨rfl, q20f, q20T, q20x⟩ := h19
      have f21 : e_fr kDs w w18 := e_fr.trans (e_fr.refl w) (e_fr.mono q20f (fun c k q => by exact q))
      show e_Ok 20 elay kcode eI (d + 1) 58 (21, [(0, (1, 8)), (1, (0, o)), (2, (0, v)), (3, (0, u))], [], w18) _
      refine e_Ok.rets rfl rfl ?_
      exact ⟨rfl, f21, q20T, q20x⟩
  · replace h1 : (o : Int) ≠ 17 := by have q : ¬ ((o : Int) = 17) := h1; omega
    refine e_Ok.run (t' := (9, [(0, (1, 8)), (1, (0, o)), (2, (0, v)), (3, (0, u))], [(0, 18), (0, o)], w)) 2 rfl ?_
    refine e_Ok.if2 rfl (fun h22 => ?_) (fun h22 => ?_)
    · replace h22 : (o : Int) ≠ 18 := h22
      refine e_Ok.run (t' := (23, [(0, (1, 8)), (1, (0, o)), (2, (0, v)), (3, (0, u))], [(0, o)], w)) 1 rfl ?_
      have hs24 : ∀ x : Int, 14 ≤ x ∧ x ≤ 24 → (x = 14) ∨ (x = 15) ∨ (x = 16) ∨ (x = 17) ∨ (x = 18) ∨ (x = 19) ∨ (x = 20) ∨ (x = 21) ∨ (x = 22) ∨ (x = 23) ∨ (x = 24) := fun x h => by omega
      obtain h23 | h23 | h23 | h23 | h23 | h23 | h23 | h23 | h23 | h23 | h23 := hs24 (o) (by omega)
      · refine e_Ok.swk (tg := 76) rfl (by rw [h23]; rfl) ?_
        refine e_Ok.run (t' := (79, [(0, (1, 8)), (1, (0, o)), (2, (0, v)), (3, (0, u))], [(0, v), (0, u), (1, 8)], w)) 3 rfl ?_
        refine e_Ok.any rfl (eF_add_any _ _) (fun z25 z25a z25b => ?_)
        refine e_Ok.callV rfl (by omega) rfl rfl rfl rfl (c_52 hT (by omega) hk) (fun r26 w27 h28 => ?_)
        obtain ⟨rfl, q29f, q29T, q29x⟩ := h28
        have f30 : e_fr kDs w w27 := e_fr.trans (e_fr.refl w) (e_fr.mono q29f (fun c k q => by exact q))
        show e_Ok 20 elay kcode eI (d + 1) 58 (83, [(0, (1, 8)), (1, (0, o)), (2, (0, v)), (3, (0, u))], [], w27) _
        refine e_Ok.run (t' := (241, [(0, (1, 8)), (1, (0, o)), (2, (0, v)), (3, (0, u))], [], w27)) 1 rfl ?_
        refine e_Ok.rets rfl rfl ?_
        exact ⟨rfl, f30, q29T, q29x⟩
      · refine e_Ok.swk (tg := 86) rfl (by rw [h23]; rfl) ?_
        refine e_Ok.run (t' := (89, [(0, (1, 8)), (1, (0, o)), (2, (0, v)), (3, (0, u))], [(0, v), (0, u), (1, 8)], w)) 3 rfl ?_
        refine e_Ok.any rfl (eF_sub_any _ _) (fun z31 z31a z31b => ?_)
        refine e_Ok.callV rfl (by omega) rfl rfl rfl rfl (c_52 hT (by omega) hk) (fun r32 w33 h34 => ?_)
        obtain ⟨rfl, q35f, q35T, q35x⟩ := h34
        have f36 : e_fr kDs w w33 := e_fr.trans (e_fr.refl w) (e_fr.mono q35f (fun c k q => by exact q))
        show e_Ok 20 elay kcode eI (d + 1) 58 (93, [(0, (1, 8)), (1, (0, o)), (2, (0, v)), (3, (0, u))], [], w33) _
        refine e_Ok.run (t' := (241, [(0, (1, 8)), (1, (0, o)), (2, (0, v)), (3, (0, u))], [], w33)) 1 rfl ?_
        refine e_Ok.rets rfl rfl ?_
        exact ⟨rfl, f36, q35T, q35x⟩
      · refine e_Ok.swk (tg := 96) rfl (by rw [h23]; rfl) ?_
        refine e_Ok.run (t' := (99, [(0, (1, 8)), (1, (0, o)), (2, (0, v)), (3, (0, u))], [(0, v), (0, u), (1, 8)], w)) 3 rfl ?_
        refine e_Ok.any rfl (eF_mul_any _ _) (fun z37 z37a z37b => ?_)
        refine e_Ok.callV rfl (by omega) rfl rfl rfl rfl (c_52 hT (by omega) hk) (fun r38 w40 h41 => ?_)
        obtain ⟨rfl, q42f, q42T, q42x⟩ := h41
        have f43 : e_fr kDs w w40 := e_fr.trans (e_fr.refl w) (e_fr.mono q42f (fun c k q => by exact q))
        show e_Ok 20 elay kcode eI (d + 1) 58 (103, [(0, (1, 8)), (1, (0, o)), (2, (0, v)), (3, (0, u))], [], w40) _
        refine e_Ok.run (t' := (241, [(0, (1, 8)), (1, (0, o)), (2, (0, v)), (3, (0, u))], [], w40)) 1 rfl ?_
        refine e_Ok.rets rfl rfl ?_
        exact ⟨rfl, f43, q42T, q42x⟩
      · refine e_Ok.swk (tg := 106) rfl (by rw [h23]; rfl) ?_
        refine e_Ok.run (t' := (108, [(0, (1, 8)), (1, (0, o)), (2, (0, v)), (3, (0, u))], [(0, v), (1, 8)], w)) 2 rfl ?_
        refine e_Ok.if1 rfl (fun h44 => ?_) (fun h44 => ?_)
        · replace h44 : (v : Int) ≠ 0 := h44
          refine e_Ok.run (t' := (117, [(0, (1, 8)), (1, (0, o)), (2, (0, v)), (3, (0, u))], [(0, v), (0, u), (1, 8)], w)) 2 rfl ?_
          refine e_Ok.any rfl (eF_div_any (by omega)) (fun z45 z45a z45b => ?_)
          refine e_Ok.callV rfl (by omega) rfl rfl rfl rfl (c_52 hT (by omega) hk) (fun r46 w47 h48 => ?_)
          obtain ⟨rfl, q49f, q49T, q49x⟩ := h48
          have f50 : e_fr kDs w w47 := e_fr.trans (e_fr.refl w) (e_fr.mono q49f (fun c k q => by exact q))
          show e_Ok 20 elay kcode eI (d + 1) 58 (121, [(0, (1, 8)), (1, (0, o)), (2, (0, v)), (3, (0, u))], [], w47) _
          refine e_Ok.run (t' := (241, [(0, (1, 8)), (1, (0, o)), (2, (0, v)), (3, (0, u))], [], w47)) 1 rfl ?_
          refine e_Ok.rets rfl rfl ?_
          exact ⟨rfl, f50, q49T, q49x⟩
        · replace h44 : (v : Int) = 0 := by have q : ¬ ((v : Int) ≠ 0) := h44; omega
          refine e_Ok.run (t' := (118, [(0, (1, 8)), (1, (0, o)), (2, (0, v)), (3, (0, u))], [(0, 0), (1, 8)], w)) 2 rfl ?_
          refine e_Ok.callV rfl (by omega) rfl rfl rfl rfl (c_52 hT (by omega) hk) (fun r51 w52 h53 => ?_)
          obtain ⟨rfl, q54f, q54T, q54x⟩ := h53
          have f55 : e_fr kDs w w52 := e_fr.trans (e_fr.refl w) (e_fr.mono q54f (fun c k q => by exact q))
          show e_Ok 20 elay kcode eI (d + 1) 58 (121, [(0, (1, 8)), (1, (0, o)), (2, (0, v)), (3, (0, u))], [], w52) _
          refine e_Ok.run (t' := (241, [(0, (1, 8)), (1, (0, o)), (2, (0, v)), (3, (0, u))], [], w52)) 1 rfl ?_
          refine e_Ok.rets rfl rfl ?_
          exact ⟨rfl, f55, q54T, q54x⟩
      · refine e_Ok.swk (tg := 124) rfl (by rw [h23]; rfl) ?_
        refine e_Ok.run (t' := (126, [(0, (1, 8)), (1, (0, o)), (2, (0, v)), (3, (0, u))], [(0, v), (1, 8)], w)) 2 rfl ?_
        refine e_Ok.if1 rfl (fun h56 => ?_) (fun h56 => ?_)
        · replace h56 : (v : Int) ≠ 0 := h56
          refine e_Ok.run (t' := (135, [(0, (1, 8)), (1, (0, o)), (2, (0, v)), (3, (0, u))], [(0, v), (0, u), (1, 8)], w)) 2 rfl ?_
          refine e_Ok.any rfl (eF_rem_any (by omega)) (fun z57 z57a z57b => ?_)
          refine e_Ok.callV rfl (by omega) rfl rfl rfl rfl (c_52 hT (by omega) hk) (fun r58 w59 h60 => ?_)
          obtain ⟨rfl, q61f, q61T, q61x⟩ := h60
          have f62 : e_fr kDs w w59 := e_fr.trans (e_fr.refl w) (e_fr.mono q61f (fun c k q => by exact q))
          show e_Ok 20 elay kcode eI (d + 1) 58 (139, [(0, (1, 8)), (1, (0, o)), (2, (0, v)), (3, (0, u))], [], w59) _
          refine e_Ok.run (t' := (241, [(0, (1, 8)), (1, (0, o)), (2, (0, v)), (3, (0, u))], [], w59)) 1 rfl ?_
          refine e_Ok.rets rfl rfl ?_
          exact ⟨rfl, f62, q61T, q61x⟩
        · replace h56 : (v : Int) = 0 := by have q : ¬ ((v : Int) ≠ 0) := h56; omega
          refine e_Ok.run (t' := (136, [(0, (1, 8)), (1, (0, o)), (2, (0, v)), (3, (0, u))], [(0, 0), (1, 8)], w)) 2 rfl ?_
          refine e_Ok.callV rfl (by omega) rfl rfl rfl rfl (c_52 hT (by omega) hk) (fun r63 w64 h65 => ?_)
          obtain ⟨rfl, q66f, q66T, q66x⟩ := h65
          have f67 : e_fr kDs w w64 := e_fr.trans (e_fr.refl w) (e_fr.mono q66f (fun c k q => by exact q))
          show e_Ok 20 elay kcode eI (d + 1) 58 (139, [(0, (1, 8)), (1, (0, o)), (2, (0, v)), (3, (0, u))], [], w64) _
          refine e_Ok.run (t' := (241, [(0, (1, 8)), (1, (0, o)), (2, (0, v)), (3, (0, u))], [], w64)) 1 rfl ?_
          refine e_Ok.rets rfl rfl ?_
          exact ⟨rfl, f67, q66T, q66x⟩
      · refine e_Ok.swk (tg := 142) rfl (by rw [h23]; rfl) ?_
        refine e_Ok.run (t' := (145, [(0, (1, 8)), (1, (0, o)), (2, (0, v)), (3, (0, u))], [(0, v), (0, u), (1, 8)], w)) 3 rfl ?_
        have hJ70 : ∀ m69 : Int, 0 ≤ m69 ∧ m69 ≤ 1 → e_Ok 20 elay kcode eI (d + 1) 58 (153, [(0, (1, 8)), (1, (0, o)), (2, (0, v)), (3, (0, u))], [(0, m69), (1, 8)], w) (fun r w' => r = [] ∧ e_fr kDs w w' ∧ e_Has kTy w' ∧ sK w') := by
          intro m69 m69r
          refine e_Ok.callV rfl (by omega) rfl rfl rfl rfl (c_52 hT (by omega) hk) (fun r71 w72 h73 => ?_)
          obtain ⟨rfl, q74f, q74T, q74x⟩ := h73
          have f75 : e_fr kDs w w72 := e_fr.trans (e_fr.refl w) (e_fr.mono q74f (fun c k q => by exact q))
          show e_Ok 20 elay kcode eI (d + 1) 58 (156, [(0, (1, 8)), (1, (0, o)), (2, (0, v)), (3, (0, u))], [], w72) _
          refine e_Ok.run (t' := (241, [(0, (1, 8)), (1, (0, o)), (2, (0, v)), (3, (0, u))], [], w72)) 1 rfl ?_
          refine e_Ok.rets rfl rfl ?_
          exact ⟨rfl, f75, q74T, q74x⟩
        refine e_Ok.if2 rfl (fun h68 => ?_) (fun h68 => ?_)
        · exact e_Ok.run 1 rfl (hJ70 0 (by omega))
        · exact e_Ok.run 2 rfl (hJ70 1 (by omega))
      · refine e_Ok.swk (tg := 159) rfl (by rw [h23]; rfl) ?_
        refine e_Ok.run (t' := (162, [(0, (1, 8)), (1, (0, o)), (2, (0, v)), (3, (0, u))], [(0, v), (0, u), (1, 8)], w)) 3 rfl ?_
        have hJ78 : ∀ m77 : Int, 0 ≤ m77 ∧ m77 ≤ 1 → e_Ok 20 elay kcode eI (d + 1) 58 (170, [(0, (1, 8)), (1, (0, o)), (2, (0, v)), (3, (0, u))], [(0, m77), (1, 8)], w) (fun r w' => r = [] ∧ e_fr kDs w w' ∧ e_Has kTy w' ∧ sK w') := by
          intro m77 m77r
          refine e_Ok.callV rfl (by omega) rfl rfl rfl rfl (c_52 hT (by omega) hk) (fun r79 w80 h81 => ?_)
          obtain ⟨rfl, q82f, q82T, q82x⟩ := h81
          have f83 : e_fr kDs w w80 := e_fr.trans (e_fr.refl w) (e_fr.mono q82f (fun c k q => by exact q))
          show e_Ok 20 elay kcode eI (d + 1) 58 (173, [(0, (1, 8)), (1, (0, o)), (2, (0, v)), (3, (0, u))], [], w80) _
          refine e_Ok.run (t' := (241, [(0, (1, 8)), (1, (0, o)), (2, (0, v)), (3, (0, u))], [], w80)) 1 rfl ?_
          refine e_Ok.rets rfl rfl ?_
          exact ⟨rfl, f83, q82T, q82x⟩
        refine e_Ok.if2 rfl (fun h76 => ?_) (fun h76 => ?_)
        · exact e_Ok.run 1 rfl (hJ78 0 (by omega))
        · exact e_Ok.run 2 rfl (hJ78 1 (by omega))
      · refine e_Ok.swk (tg := 176) rfl (by rw [h23]; rfl) ?_
        refine e_Ok.run (t' := (179, [(0, (1, 8)), (1, (0, o)), (2, (0, v)), (3, (0, u))], [(0, v), (0, u), (1, 8)], w)) 3 rfl ?_
        have hJ86 : ∀ m85 : Int, 0 ≤ m85 ∧ m85 ≤ 1 → e_Ok 20 elay kcode eI (d + 1) 58 (187, [(0, (1, 8)), (1, (0, o)), (2, (0, v)), (3, (0, u))], [(0, m85), (1, 8)], w) (fun r w' => r = [] ∧ e_fr kDs w w' ∧ e_Has kTy w' ∧ sK w') := by
          intro m85 m85r
          refine e_Ok.callV rfl (by omega) rfl rfl rfl rfl (c_52 hT (by omega) hk) (fun r87 w88 h89 => ?_)
          obtain ⟨rfl, q90f, q90T, q90x⟩ := h89
          have f91 : e_fr kDs w w88 := e_fr.trans (e_fr.refl w) (e_fr.mono q90f (fun c k q => by exact q))
          show e_Ok 20 elay kcode eI (d + 1) 58 (190, [(0, (1, 8)), (1, (0, o)), (2, (0, v)), (3, (0, u))], [], w88) _
          refine e_Ok.run (t' := (241, [(0, (1, 8)), (1, (0, o)), (2, (0, v)), (3, (0, u))], [], w88)) 1 rfl ?_
          refine e_Ok.rets rfl rfl ?_
          exact ⟨rfl, f91, q90T, q90x⟩
        refine e_Ok.if2 rfl (fun h84 => ?_) (fun h84 => ?_)
        · exact e_Ok.run 1 rfl (hJ86 0 (by omega))
        · exact e_Ok.run 2 rfl (hJ86 1 (by omega))
      · refine e_Ok.swk (tg := 193) rfl (by rw [h23]; rfl) ?_
        refine e_Ok.run (t' := (196, [(0, (1, 8)), (1, (0, o)), (2, (0, v)), (3, (0, u))], [(0, v), (0, u), (1, 8)], w)) 3 rfl ?_
        have hJ94 : ∀ m93 : Int, 0 ≤ m93 ∧ m93 ≤ 1 → e_Ok 20 elay kcode eI (d + 1) 58 (204, [(0, (1, 8)), (1, (0, o)), (2, (0, v)), (3, (0, u))], [(0, m93), (1, 8)], w) (fun r w' => r = [] ∧ e_fr kDs w w' ∧ e_Has kTy w' ∧ sK w') := by
          intro m93 m93r
          refine e_Ok.callV rfl (by omega) rfl rfl rfl rfl (c_52 hT (by omega) hk) (fun r95 w101 h103 => ?_)
          obtain ⟨rfl, q104f, q104T, q104x⟩ := h103
          have f105 : e_fr kDs w w101 := e_fr.trans (e_fr.refl w) (e_fr.mono q104f (fun c k q => by exact q))
          show e_Ok 20 elay kcode eI (d + 1) 58 (207, [(0, (1, 8)), (1, (0, o)), (2, (0, v)), (3, (0, u))], [], w101) _
          refine e_Ok.run (t' := (241, [(0, (1, 8)), (1, (0, o)), (2, (0, v)), (3, (0, u))], [], w101)) 1 rfl ?_
          refine e_Ok.rets rfl rfl ?_
          exact ⟨rfl, f105, q104T, q104x⟩
        refine e_Ok.if2 rfl (fun h92 => ?_) (fun h92 => ?_)
        · exact e_Ok.run 1 rfl (hJ94 0 (by omega))
        · exact e_Ok.run 2 rfl (hJ94 1 (by omega))
      · refine e_Ok.swk (tg := 210) rfl (by rw [h23]; rfl) ?_
        refine e_Ok.run (t' := (213, [(0, (1, 8)), (1, (0, o)), (2, (0, v)), (3, (0, u))], [(0, v), (0, u), (1, 8)], w)) 3 rfl ?_
        have hJ108 : ∀ m107 : Int, 0 ≤ m107 ∧ m107 ≤ 1 → e_Ok 20 elay kcode eI (d + 1) 58 (221, [(0, (1, 8)), (1, (0, o)), (2, (0, v)), (3, (0, u))], [(0, m107), (1, 8)], w) (fun r w' => r = [] ∧ e_fr kDs w w' ∧ e_Has kTy w' ∧ sK w') := by
          intro m107 m107r
          refine e_Ok.callV rfl (by omega) rfl rfl rfl rfl (c_52 hT (by omega) hk) (fun r109 w110 h111 => ?_)
          obtain ⟨rfl, q112f, q112T, q112x⟩ := h111
          have f113 : e_fr kDs w w110 := e_fr.trans (e_fr.refl w) (e_fr.mono q112f (fun c k q => by exact q))
          show e_Ok 20 elay kcode eI (d + 1) 58 (224, [(0, (1, 8)), (1, (0, o)), (2, (0, v)), (3, (0, u))], [], w110) _
          refine e_Ok.run (t' := (241, [(0, (1, 8)), (1, (0, o)), (2, (0, v)), (3, (0, u))], [], w110)) 1 rfl ?_
          refine e_Ok.rets rfl rfl ?_
          exact ⟨rfl, f113, q112T, q112x⟩
        refine e_Ok.if2 rfl (fun h106 => ?_) (fun h106 => ?_)
        · exact e_Ok.run 1 rfl (hJ108 0 (by omega))
        · exact e_Ok.run 2 rfl (hJ108 1 (by omega))
      · refine e_Ok.swk (tg := 227) rfl (by rw [h23]; rfl) ?_
        refine e_Ok.run (t' := (230, [(0, (1, 8)), (1, (0, o)), (2, (0, v)), (3, (0, u))], [(0, v), (0, u), (1, 8)], w)) 3 rfl ?_
        have hJ116 : ∀ m115 : Int, 0 ≤ m115 ∧ m115 ≤ 1 → e_Ok 20 elay kcode eI (d + 1) 58 (238, [(0, (1, 8)), (1, (0, o)), (2, (0, v)), (3, (0, u))], [(0, m115), (1, 8)], w) (fun r w' => r = [] ∧ e_fr kDs w w' ∧ e_Has kTy w' ∧ sK w') := by
          intro m115 m115r
          refine e_Ok.callV rfl (by omega) rfl rfl rfl rfl (c_52 hT (by omega) hk) (fun r117 w118 h119 => ?_)
          obtain ⟨rfl, q120f, q120T, q120x⟩ := h119
          have f121 : e_fr kDs w w118 := e_fr.trans (e_fr.refl w) (e_fr.mono q120f (fun c k q => by exact q))
          show e_Ok 20 elay kcode eI (d + 1) 58 (241, [(0, (1, 8)), (1, (0, o)), (2, (0, v)), (3, (0, u))], [], w118) _
          refine e_Ok.rets rfl rfl ?_
          exact ⟨rfl, f121, q120T, q120x⟩
        refine e_Ok.if2 rfl (fun h114 => ?_) (fun h114 => ?_)
        · exact e_Ok.run 1 rfl (hJ116 0 (by omega))
        · exact e_Ok.run 2 rfl (hJ116 1 (by omega))
    · replace h22 : (o : Int) = 18 := by have q : ¬ ((o : Int) ≠ 18) := h22; omega
      refine e_Ok.run (t' := (13, [(0, (1, 8)), (1, (0, o)), (2, (0, v)), (3, (0, u))], [(0, v)], w)) 1 rfl ?_
      refine e_Ok.if1 rfl (fun h122 => ?_) (fun h122 => ?_)
      · replace h122 : (v : Int) ≠ 0 := h122
        refine e_Ok.run (t' := (23, [(0, (1, 8)), (1, (0, o)), (2, (0, v)), (3, (0, u))], [(0, o)], w)) 1 rfl ?_
        have hs124 : ∀ x : Int, 18 ≤ x ∧ x ≤ 18 → (x = 18) := fun x h => by omega
        obtain h123 := hs124 (o) (by omega)
        · refine e_Ok.swk (tg := 124) rfl (by rw [h123]; rfl) ?_
          refine e_Ok.run (t' := (126, [(0, (1, 8)), (1, (0, o)), (2, (0, v)), (3, (0, u))], [(0, v), (1, 8)], w)) 2 rfl ?_
          refine e_Ok.if1 rfl (fun h125 => ?_) (fun h125 => ?_)
          · replace h125 : (v : Int) ≠ 0 := h125
            refine e_Ok.run (t' := (135, [(0, (1, 8)), (1, (0, o)), (2, (0, v)), (3, (0, u))], [(0, v), (0, u), (1, 8)], w)) 2 rfl ?_
            refine e_Ok.any rfl (eF_rem_any (by omega)) (fun z126 z126a z126b => ?_)
            refine e_Ok.callV rfl (by omega) rfl rfl rfl rfl (c_52 hT (by omega) hk) (fun r127 w128 h129 => ?_)
            obtain ⟨rfl, q130f, q130T, q130x⟩ := h129
            have f131 : e_fr kDs w w128 := e_fr.trans (e_fr.refl w) (e_fr.mono q130f (fun c k q => by exact q))
            show e_Ok 20 elay kcode eI (d + 1) 58 (139, [(0, (1, 8)), (1, (0, o)), (2, (0, v)), (3, (0, u))], [], w128) _
            refine e_Ok.run (t' := (241, [(0, (1, 8)), (1, (0, o)), (2, (0, v)), (3, (0, u))], [], w128)) 1 rfl ?_
            refine e_Ok.rets rfl rfl ?_
            exact ⟨rfl, f131, q130T, q130x⟩
          · replace h125 : (v : Int) = 0 := by have q : ¬ ((v : Int) ≠ 0) := h125; omega
            refine e_Ok.run (t' := (136, [(0, (1, 8)), (1, (0, o)), (2, (0, v)), (3, (0, u))], [(0, 0), (1, 8)], w)) 2 rfl ?_
            refine e_Ok.callV rfl (by omega) rfl rfl rfl rfl (c_52 hT (by omega) hk) (fun r132 w133 h134 => ?_)
            obtain ⟨rfl, q135f, q135T, q135x⟩ := h134
            have f136 : e_fr kDs w w133 := e_fr.trans (e_fr.refl w) (e_fr.mono q135f (fun c k q => by exact q))
            show e_Ok 20 elay kcode eI (d + 1) 58 (139, [(0, (1, 8)), (1, (0, o)), (2, (0, v)), (3, (0, u))], [], w133) _
            refine e_Ok.run (t' := (241, [(0, (1, 8)), (1, (0, o)), (2, (0, v)), (3, (0, u))], [], w133)) 1 rfl ?_
            refine e_Ok.rets rfl rfl ?_
            exact ⟨rfl, f136, q135T, q135x⟩
      · replace h122 : (v : Int) = 0 := by have q : ¬ ((v : Int) ≠ 0) := h122; omega
        refine e_Ok.run (t' := (18, [(0, (1, 8)), (1, (0, o)), (2, (0, v)), (3, (0, u))], [(0, 1), (1, 8)], w)) 2 rfl ?_
        refine e_Ok.callV rfl (by omega) rfl rfl rfl rfl (c_46 hT (by omega) hk) (fun r137 w138 h139 => ?_)
        obtain ⟨rfl, q140f, q140T, q140x⟩ := h139
        have f141 : e_fr kDs w w138 := e_fr.trans (e_fr.refl w) (e_fr.mono q140f (fun c k q => by exact q))
        show e_Ok 20 elay kcode eI (d + 1) 58 (21, [(0, (1, 8)), (1, (0, o)), (2, (0, v)), (3, (0, u))], [], w138) _
        refine e_Ok.rets rfl rfl ?_
        exact ⟨rfl, f141, q140T, q140x⟩
theorem c_54 {d : Nat} (hd : 23 ≤ d) {w : eW} (hT : e_Has kTy w) {t a o n : Int} (g_t : 0 ≤ t ∧ t ≤ 15) (g_a : 0 ≤ a ∧ a ≤ 3) (g_o : 0 ≤ o ∧ o ≤ 8) (g_n : 0 ≤ n ∧ n ≤ 33554431) (hk : sK w) (ha : w (6 * t + 154) 2 = a) (hn : o = 2 → n ≤ 31) : e_Ok 20 elay kcode eI d 54 (0, [(0, (1, 8)), (1, (1, 6 * t + 154)), (2, (0, o)), (3, (0, n))], [], w) (fun r w' => r = [] ∧ e_fr kDs w w' ∧ e_Has kTy w' ∧ sK w') := by
  obtain ⟨d, rfl⟩ : ∃ e, d = e + 1 := ⟨d - 1, by omega⟩
  refine e_Ok.run (t' := (1, [(0, (1, 8)), (1, (1, 6 * t + 154)), (2, (0, o)), (3, (0, n))], [(1, 8)], w)) 1 rfl ?_
  refine e_Ok.getr (z := 9) rfl (el_o rfl) rfl rfl (Eq.trans (e_Has.eq hT rfl) (by omega)) (by omega) ?_
  refine e_Ok.run (t' := (5, [(0, (1, 8)), (1, (1, 6 * t + 154)), (2, (0, o)), (3, (0, n))], [(1, 6 * t + 154), (1, 9)], w)) 1 rfl ?_
  refine e_Ok.getf (z := a) rfl (lT0 (t := t) (by omega) (by omega)) rfl rfl ha (by omega) ?_
  refine e_Ok.aald (z := 17 * a + 86) rfl (el_o rfl) rfl (by omega) (Eq.trans (e_Has.eq hT (k9 (by omega))) (by omega)) (by omega) ?_
  refine e_Ok.run (t' := (12, [(4, (1, 17 * a + 86)), (0, (1, 8)), (1, (1, 6 * t + 154)), (2, (0, o)), (3, (0, n))], [(0, o)], w)) 2 rfl ?_
  have hs2 : ∀ x : Int, 0 ≤ x ∧ x ≤ 8 → (x = 0) ∨ (x = 1) ∨ (x = 2) ∨ (x = 3) ∨ (x = 4) ∨ (x = 5) ∨ (x = 6) ∨ (x = 7) ∨ (x = 8) := fun x h => by omega
  obtain h1 | h1 | h1 | h1 | h1 | h1 | h1 | h1 | h1 := hs2 (o) (by omega)
  · refine e_Ok.swk (tg := 60) rfl (by rw [h1]; rfl) ?_
    refine e_Ok.run (t' := (62, [(4, (1, 17 * a + 86)), (0, (1, 8)), (1, (1, 6 * t + 154)), (2, (0, o)), (3, (0, n))], [(0, n), (1, 8)], w)) 2 rfl ?_
    refine e_Ok.callV rfl (by omega) rfl rfl rfl rfl (c_52 hT (by omega) hk) (fun r3 w4 h5 => ?_)
    obtain ⟨rfl, q6f, q6T, q6x⟩ := h5
    have f7 : e_fr kDs w w4 := e_fr.trans (e_fr.refl w) (e_fr.mono q6f (fun c k q => by exact q))
    show e_Ok 20 elay kcode eI (d + 1) 54 (65, [(4, (1, 17 * a + 86)), (0, (1, 8)), (1, (1, 6 * t + 154)), (2, (0, o)), (3, (0, n))], [], w4) _
    refine e_Ok.run (t' := (186, [(4, (1, 17 * a + 86)), (0, (1, 8)), (1, (1, 6 * t + 154)), (2, (0, o)), (3, (0, n))], [], w4)) 1 rfl ?_
    refine e_Ok.rets rfl rfl ?_
    exact ⟨rfl, f7, q6T, q6x⟩
  · refine e_Ok.swk (tg := 68) rfl (by rw [h1]; rfl) ?_
    refine e_Ok.run (t' := (70, [(4, (1, 17 * a + 86)), (0, (1, 8)), (1, (1, 6 * t + 154)), (2, (0, o)), (3, (0, n))], [(1, 8), (1, 8)], w)) 2 rfl ?_
    refine e_Ok.callV rfl (by omega) rfl rfl rfl rfl (c_53 hT hk) (fun r8 w9 h10 => ?_)
    obtain ⟨z12, rfl, q11f, q11T, q11r, q11x⟩ := h10
    have f13 : e_fr kDs w w9 := e_fr.trans (e_fr.refl w) (e_fr.mono q11f (fun c k q => by exact q))
    show e_Ok 20 elay kcode eI (d + 1) 54 (73, [(4, (1, 17 * a + 86)), (0, (1, 8)), (1, (1, 6 * t + 154)), (2, (0, o)), (3, (0, n))], [(0, z12), (1, 8)], w9) _
    refine e_Ok.run (t' := (75, [(4, (1, 17 * a + 86)), (0, (1, 8)), (1, (1, 6 * t + 154)), (2, (0, o)), (3, (0, n))], [(0, 16), (0, z12), (1, 8)], w9)) 1 rfl ?_
    refine e_Ok.any rfl (eB_any _ _) (fun z14 z14a z14b => ?_)
    refine e_Ok.run (t' := (77, [(4, (1, 17 * a + 86)), (0, (1, 8)), (1, (1, 6 * t + 154)), (2, (0, o)), (3, (0, n))], [(0, n), (0, z14), (1, 8)], w9)) 1 rfl ?_
    refine e_Ok.any rfl (eB_any _ _) (fun z15 z15a z15b => ?_)
    refine e_Ok.callV rfl (by omega) rfl rfl rfl rfl (c_52 q11T (by omega) q11x) (fun r16 w17 h18 => ?_)
    obtain ⟨rfl, q19f, q19T, q19x⟩ := h18
    have f20 : e_fr kDs w w17 := e_fr.trans f13 (e_fr.mono q19f (fun c k q => by exact q))
    show e_Ok 20 elay kcode eI (d + 1) 54 (81, [(4, (1, 17 * a + 86)), (0, (1, 8)), (1, (1, 6 * t + 154)), (2, (0, o)), (3, (0, n))], [], w17) _
    refine e_Ok.run (t' := (186, [(4, (1, 17 * a + 86)), (0, (1, 8)), (1, (1, 6 * t + 154)), (2, (0, o)), (3, (0, n))], [], w17)) 1 rfl ?_
    refine e_Ok.rets rfl rfl ?_
    exact ⟨rfl, f20, q19T, q19x⟩
  · refine e_Ok.swk (tg := 84) rfl (by rw [h1]; rfl) ?_
    refine e_Ok.run (t' := (87, [(4, (1, 17 * a + 86)), (0, (1, 8)), (1, (1, 6 * t + 154)), (2, (0, o)), (3, (0, n))], [(1, 17 * a + 86), (1, 8)], w)) 2 rfl ?_
    refine e_Ok.getr (z := 17 * a + 93) rfl (lA0 (a := a) (by omega) (by omega)) rfl rfl (Eq.trans (e_Has.eq hT (kA_6 (a := a) (by omega) (by omega))) (by omega)) (by omega) ?_
    refine e_Ok.run (t' := (91, [(4, (1, 17 * a + 86)), (0, (1, 8)), (1, (1, 6 * t + 154)), (2, (0, o)), (3, (0, n))], [(0, n), (1, 17 * a + 93), (1, 8)], w)) 1 rfl ?_
    have h21 := (e_Has.get hT (c := 17 * a + 93) (k := n) (lo := (-2147483648)) (hi := 2147483647) (kA93 (a := a) _ (by omega) (by omega)) (by decide))
    refine e_Ok.ald (z := w (17 * a + 93) n) rfl (lA7 (a := a) (by omega) (by omega)) rfl (by omega) rfl (by omega) ?_
    refine e_Ok.callV rfl (by omega) rfl rfl rfl rfl (c_52 hT (by omega) hk) (fun r22 w23 h24 => ?_)
    obtain ⟨rfl, q25f, q25T, q25x⟩ := h24
    have f26 : e_fr kDs w w23 := e_fr.trans (e_fr.refl w) (e_fr.mono q25f (fun c k q => by exact q))
    show e_Ok 20 elay kcode eI (d + 1) 54 (95, [(4, (1, 17 * a + 86)), (0, (1, 8)), (1, (1, 6 * t + 154)), (2, (0, o)), (3, (0, n))], [], w23) _
    refine e_Ok.run (t' := (186, [(4, (1, 17 * a + 86)), (0, (1, 8)), (1, (1, 6 * t + 154)), (2, (0, o)), (3, (0, n))], [], w23)) 1 rfl ?_
    refine e_Ok.rets rfl rfl ?_
    exact ⟨rfl, f26, q25T, q25x⟩
  · refine e_Ok.swk (tg := 98) rfl (by rw [h1]; rfl) ?_
    refine e_Ok.run (t' := (100, [(4, (1, 17 * a + 86)), (0, (1, 8)), (1, (1, 6 * t + 154)), (2, (0, o)), (3, (0, n))], [(1, 8), (1, 8)], w)) 2 rfl ?_
    refine e_Ok.callV rfl (by omega) rfl rfl rfl rfl (c_53 hT hk) (fun r27 w28 h29 => ?_)
    obtain ⟨z31, rfl, q30f, q30T, q30r, q30x⟩ := h29
    have f32 : e_fr kDs w w28 := e_fr.trans (e_fr.refl w) (e_fr.mono q30f (fun c k q => by exact q))
    show e_Ok 20 elay kcode eI (d + 1) 54 (103, [(4, (1, 17 * a + 86)), (0, (1, 8)), (1, (1, 6 * t + 154)), (2, (0, o)), (3, (0, n))], [(0, z31), (1, 8)], w28) _
    refine e_Ok.callV rfl (by omega) rfl rfl rfl rfl (c_55 (by omega) q30T (by omega) q30x) (fun r33 w34 h35 => ?_)
    obtain ⟨rfl, q36f, q36T, q36x⟩ := h35
    have f37 : e_fr kDs w w34 := e_fr.trans f32 (e_fr.mono q36f (fun c k q => by exact q))
    show e_Ok 20 elay kcode eI (d + 1) 54 (106, [(4, (1, 17 * a + 86)), (0, (1, 8)), (1, (1, 6 * t + 154)), (2, (0, o)), (3, (0, n))], [], w34) _
    refine e_Ok.run (t' := (186, [(4, (1, 17 * a + 86)), (0, (1, 8)), (1, (1, 6 * t + 154)), (2, (0, o)), (3, (0, n))], [], w34)) 1 rfl ?_
    refine e_Ok.rets rfl rfl ?_
    exact ⟨rfl, f37, q36T, q36x⟩
  · refine e_Ok.swk (tg := 109) rfl (by rw [h1]; rfl) ?_
    refine e_Ok.run (t' := (113, [(4, (1, 17 * a + 86)), (0, (1, 8)), (1, (1, 6 * t + 154)), (2, (0, o)), (3, (0, n))], [(1, 8), (1, 17 * a + 86), (1, 8)], w)) 3 rfl ?_
    refine e_Ok.callV rfl (by omega) rfl rfl rfl rfl (c_53 hT hk) (fun r38 w40 h41 => ?_)
    obtain ⟨z43, rfl, q42f, q42T, q42r, q42x⟩ := h41
    have f44 : e_fr kDs w w40 := e_fr.trans (e_fr.refl w) (e_fr.mono q42f (fun c k q => by exact q))
    show e_Ok 20 elay kcode eI (d + 1) 54 (116, [(4, (1, 17 * a + 86)), (0, (1, 8)), (1, (1, 6 * t + 154)), (2, (0, o)), (3, (0, n))], [(0, z43), (1, 17 * a + 86), (1, 8)], w40) _
    refine e_Ok.callV rfl (by omega) rfl rfl rfl rfl (c_56 (by omega) (a := a) q42T (by omega) (by omega) q42x) (fun r45 w46 h47 => ?_)
    obtain ⟨rfl, q48f, q48T, q48x⟩ := h47
    have f49 : e_fr kDs w w46 := e_fr.trans f44 (e_fr.mono q48f (fun c k q => by exact q))
    show e_Ok 20 elay kcode eI (d + 1) 54 (119, [(4, (1, 17 * a + 86)), (0, (1, 8)), (1, (1, 6 * t + 154)), (2, (0, o)), (3, (0, n))], [], w46) _
    refine e_Ok.run (t' := (186, [(4, (1, 17 * a + 86)), (0, (1, 8)), (1, (1, 6 * t + 154)), (2, (0, o)), (3, (0, n))], [], w46)) 1 rfl ?_
    refine e_Ok.rets rfl rfl ?_
    exact ⟨rfl, f49, q48T, q48x⟩
  · refine e_Ok.swk (tg := 122) rfl (by rw [h1]; rfl) ?_
    refine e_Ok.run (t' := (124, [(4, (1, 17 * a + 86)), (0, (1, 8)), (1, (1, 6 * t + 154)), (2, (0, o)), (3, (0, n))], [(1, 8), (1, 8)], w)) 2 rfl ?_
    refine e_Ok.getr (z := 74) rfl (el_o rfl) rfl rfl (Eq.trans (e_Has.eq hT rfl) (by omega)) (by omega) ?_
    have h50 := (e_Has.get hT (c := 74) (k := 0) (lo := 0) (hi := 6000) rfl (by decide))
    refine e_Ok.getf (z := w 74 0) rfl (el_o rfl) rfl rfl rfl (by omega) ?_
    refine e_Ok.callV rfl (by omega) rfl rfl rfl rfl (c_52 hT (by omega) hk) (fun r51 w52 h53 => ?_)
    obtain ⟨rfl, q54f, q54T, q54x⟩ := h53
    have f55 : e_fr kDs w w52 := e_fr.trans (e_fr.refl w) (e_fr.mono q54f (fun c k q => by exact q))
    show e_Ok 20 elay kcode eI (d + 1) 54 (133, [(4, (1, 17 * a + 86)), (0, (1, 8)), (1, (1, 6 * t + 154)), (2, (0, o)), (3, (0, n))], [], w52) _
    refine e_Ok.run (t' := (186, [(4, (1, 17 * a + 86)), (0, (1, 8)), (1, (1, 6 * t + 154)), (2, (0, o)), (3, (0, n))], [], w52)) 1 rfl ?_
    refine e_Ok.rets rfl rfl ?_
    exact ⟨rfl, f55, q54T, q54x⟩
  · refine e_Ok.swk (tg := 136) rfl (by rw [h1]; rfl) ?_
    refine e_Ok.run (t' := (138, [(4, (1, 17 * a + 86)), (0, (1, 8)), (1, (1, 6 * t + 154)), (2, (0, o)), (3, (0, n))], [(1, 6 * t + 154), (1, 8)], w)) 2 rfl ?_
    have h56 := (e_Has.get hT (c := 6 * t + 154) (k := 6) (lo := (-2147483648)) (hi := 2147483647) (kT_6 (t := t) (by omega) (by omega)) (by decide))
    refine e_Ok.getf (z := w (6 * t + 154) 6) rfl (lT0 (t := t) (by omega) (by omega)) rfl rfl rfl (by omega) ?_
    refine e_Ok.callV rfl (by omega) rfl rfl rfl rfl (c_52 hT (by omega) hk) (fun r57 w58 h59 => ?_)
    obtain ⟨rfl, q60f, q60T, q60x⟩ := h59
    have f61 : e_fr kDs w w58 := e_fr.trans (e_fr.refl w) (e_fr.mono q60f (fun c k q => by exact q))
    show e_Ok 20 elay kcode eI (d + 1) 54 (144, [(4, (1, 17 * a + 86)), (0, (1, 8)), (1, (1, 6 * t + 154)), (2, (0, o)), (3, (0, n))], [], w58) _
    refine e_Ok.run (t' := (186, [(4, (1, 17 * a + 86)), (0, (1, 8)), (1, (1, 6 * t + 154)), (2, (0, o)), (3, (0, n))], [], w58)) 1 rfl ?_
    refine e_Ok.rets rfl rfl ?_
    exact ⟨rfl, f61, q60T, q60x⟩
  · refine e_Ok.swk (tg := 147) rfl (by rw [h1]; rfl) ?_
    refine e_Ok.run (t' := (149, [(4, (1, 17 * a + 86)), (0, (1, 8)), (1, (1, 6 * t + 154)), (2, (0, o)), (3, (0, n))], [(1, 8), (1, 8)], w)) 2 rfl ?_
    refine e_Ok.getr (z := 74) rfl (el_o rfl) rfl rfl (Eq.trans (e_Has.eq hT rfl) (by omega)) (by omega) ?_
    have h62 := (e_Has.get hT (c := 74) (k := 3) (lo := 0) (hi := 1) rfl (by decide))
    refine e_Ok.getf (z := w 74 3) rfl (el_o rfl) rfl rfl rfl (by omega) ?_
    have hJ65 : ∀ m64 : Int, 0 ≤ m64 ∧ m64 ≤ 1 → e_Ok 20 elay kcode eI (d + 1) 54 (163, [(4, (1, 17 * a + 86)), (0, (1, 8)), (1, (1, 6 * t + 154)), (2, (0, o)), (3, (0, n))], [(0, m64), (1, 8)], w) (fun r w' => r = [] ∧ e_fr kDs w w' ∧ e_Has kTy w' ∧ sK w') := by
      intro m64 m64r
      refine e_Ok.callV rfl (by omega) rfl rfl rfl rfl (c_52 hT (by omega) hk) (fun r66 w67 h68 => ?_)
      obtain ⟨rfl, q69f, q69T, q69x⟩ := h68
      have f70 : e_fr kDs w w67 := e_fr.trans (e_fr.refl w) (e_fr.mono q69f (fun c k q => by exact q))
      show e_Ok 20 elay kcode eI (d + 1) 54 (166, [(4, (1, 17 * a + 86)), (0, (1, 8)), (1, (1, 6 * t + 154)), (2, (0, o)), (3, (0, n))], [], w67) _
      refine e_Ok.run (t' := (186, [(4, (1, 17 * a + 86)), (0, (1, 8)), (1, (1, 6 * t + 154)), (2, (0, o)), (3, (0, n))], [], w67)) 1 rfl ?_
      refine e_Ok.rets rfl rfl ?_
      exact ⟨rfl, f70, q69T, q69x⟩
    refine e_Ok.if1 rfl (fun h63 => ?_) (fun h63 => ?_)
    · exact e_Ok.run 1 rfl (hJ65 0 (by omega))
    · exact e_Ok.run 2 rfl (hJ65 1 (by omega))
  · refine e_Ok.swk (tg := 169) rfl (by rw [h1]; rfl) ?_
    refine e_Ok.run (t' := (172, [(4, (1, 17 * a + 86)), (0, (1, 8)), (1, (1, 6 * t + 154)), (2, (0, o)), (3, (0, n))], [(1, 17 * a + 86), (1, 8)], w)) 2 rfl ?_
    have h71 := (e_Has.get hT (c := 17 * a + 86) (k := 14) (lo := (-1)) (hi := 31) (kA_14 (a := a) (by omega) (by omega)) (by decide))
    refine e_Ok.getf (z := w (17 * a + 86) 14) rfl (lA0 (a := a) (by omega) (by omega)) rfl rfl rfl (by omega) ?_
    have hJ74 : ∀ m73 : Int, 0 ≤ m73 ∧ m73 ≤ 1 → e_Ok 20 elay kcode eI (d + 1) 54 (183, [(4, (1, 17 * a + 86)), (0, (1, 8)), (1, (1, 6 * t + 154)), (2, (0, o)), (3, (0, n))], [(0, m73), (1, 8)], w) (fun r w' => r = [] ∧ e_fr kDs w w' ∧ e_Has kTy w' ∧ sK w') := by
      intro m73 m73r
      refine e_Ok.callV rfl (by omega) rfl rfl rfl rfl (c_52 hT (by omega) hk) (fun r75 w76 h77 => ?_)
      obtain ⟨rfl, q78f, q78T, q78x⟩ := h77
      have f79 : e_fr kDs w w76 := e_fr.trans (e_fr.refl w) (e_fr.mono q78f (fun c k q => by exact q))
      show e_Ok 20 elay kcode eI (d + 1) 54 (186, [(4, (1, 17 * a + 86)), (0, (1, 8)), (1, (1, 6 * t + 154)), (2, (0, o)), (3, (0, n))], [], w76) _
      refine e_Ok.rets rfl rfl ?_
      exact ⟨rfl, f79, q78T, q78x⟩
    refine e_Ok.if1 rfl (fun h72 => ?_) (fun h72 => ?_)
    · exact e_Ok.run 1 rfl (hJ74 0 (by omega))
    · exact e_Ok.run 2 rfl (hJ74 1 (by omega))
theorem c_57 {d : Nat} (hd : 22 ≤ d) {w : eW} (hT : e_Has kTy w) {t o n : Int} (g_t : 0 ≤ t ∧ t ≤ 15) (g_o : 9 ≤ o ∧ o ≤ 13) (g_n : 0 ≤ n ∧ n ≤ 33554431) (hk : sK w) : e_Ok 20 elay kcode eI d 57 (0, [(0, (1, 8)), (1, (1, 6 * t + 154)), (2, (0, o)), (3, (0, n))], [], w) (fun r w' => r = [] ∧ e_fr (kDp t) w w' ∧ e_Has kTy w' ∧ (sK w' ∧ (w' (6 * t + 154) 3 = w (6 * t + 154) 3 ∨ ((o = 12 ∨ o = 13) ∧ w' (6 * t + 154) 3 = n)))) := by
  obtain ⟨d, rfl⟩ : ∃ e, d = e + 1 := ⟨d - 1, by omega⟩
  refine e_Ok.run (t' := (1, [(0, (1, 8)), (1, (1, 6 * t + 154)), (2, (0, o)), (3, (0, n))], [(1, 8)], w)) 1 rfl ?_
  refine e_Ok.callV rfl (by omega) rfl rfl rfl rfl (c_53 hT hk) (fun r1 w2 h3 => ?_)
  obtain ⟨z5, rfl, q4f, q4T, q4r, q4x⟩ := h3
  have f6 : e_fr (kDp t) w w2 := e_fr.trans (e_fr.refl w) (e_fr.mono q4f (fun c k q => by unfold kDs at q; unfold kDp; omega))
  show e_Ok 20 elay kcode eI (d + 1) 57 (4, [(0, (1, 8)), (1, (1, 6 * t + 154)), (2, (0, o)), (3, (0, n))], [(0, z5)], w2) _
  refine e_Ok.run (t' := (7, [(4, (0, z5)), (0, (1, 8)), (1, (1, 6 * t + 154)), (2, (0, o)), (3, (0, n))], [(0, o)], w2)) 2 rfl ?_
  have hs8 : ∀ x : Int, 9 ≤ x ∧ x ≤ 13 → (x = 9) ∨ (x = 10) ∨ (x = 11) ∨ (x = 12) ∨ (x = 13) := fun x h => by omega
  obtain h7 | h7 | h7 | h7 | h7 := hs8 (o) (by omega)
  · refine e_Ok.swk (tg := 36) rfl (by rw [h7]; rfl) ?_
    refine e_Ok.run (t' := (39, [(4, (0, z5)), (0, (1, 8)), (1, (1, 6 * t + 154)), (2, (0, o)), (3, (0, n))], [(0, z5), (1, 8)], w2)) 2 rfl ?_
    refine e_Ok.anyU rfl (fun z9 z9a z9b => ?_)
    refine e_Ok.callV rfl (by omega) rfl rfl rfl rfl (c_52 q4T (by omega) q4x) (fun r10 w11 h12 => ?_)
    obtain ⟨rfl, q13f, q13T, q13x⟩ := h12
    have f14 : e_fr (kDp t) w w11 := e_fr.trans f6 (e_fr.mono q13f (fun c k q => by unfold kDs at q; unfold kDp; omega))
    show e_Ok 20 elay kcode eI (d + 1) 57 (43, [(4, (0, z5)), (0, (1, 8)), (1, (1, 6 * t + 154)), (2, (0, o)), (3, (0, n))], [], w11) _
    refine e_Ok.run (t' := (119, [(4, (0, z5)), (0, (1, 8)), (1, (1, 6 * t + 154)), (2, (0, o)), (3, (0, n))], [], w11)) 1 rfl ?_
    refine e_Ok.rets rfl rfl ?_
    exact ⟨rfl, f14, q13T, ⟨q13x, Or.inl ((q13f (6 * t + 154) 3 (by unfold kDs; omega)).trans ((q4f (6 * t + 154) 3 (by unfold kDs; omega)).trans rfl))⟩⟩
  · refine e_Ok.swk (tg := 46) rfl (by rw [h7]; rfl) ?_
    refine e_Ok.run (t' := (49, [(4, (0, z5)), (0, (1, 8)), (1, (1, 6 * t + 154)), (2, (0, o)), (3, (0, n))], [(0, z5), (1, 8)], w2)) 2 rfl ?_
    have hJ17 : ∀ m16 : Int, 0 ≤ m16 ∧ m16 ≤ 1 → e_Ok 20 elay kcode eI (d + 1) 57 (57, [(4, (0, z5)), (0, (1, 8)), (1, (1, 6 * t + 154)), (2, (0, o)), (3, (0, n))], [(0, m16), (1, 8)], w2) (fun r w' => r = [] ∧ e_fr (kDp t) w w' ∧ e_Has kTy w' ∧ (sK w' ∧ (w' (6 * t + 154) 3 = w (6 * t + 154) 3 ∨ ((o = 12 ∨ o = 13) ∧ w' (6 * t + 154) 3 = n)))) := by
      intro m16 m16r
      refine e_Ok.callV rfl (by omega) rfl rfl rfl rfl (c_52 q4T (by omega) q4x) (fun r18 w19 h20 => ?_)
      obtain ⟨rfl, q21f, q21T, q21x⟩ := h20
      have f22 : e_fr (kDp t) w w19 := e_fr.trans f6 (e_fr.mono q21f (fun c k q => by unfold kDs at q; unfold kDp; omega))
      show e_Ok 20 elay kcode eI (d + 1) 57 (60, [(4, (0, z5)), (0, (1, 8)), (1, (1, 6 * t + 154)), (2, (0, o)), (3, (0, n))], [], w19) _
      refine e_Ok.run (t' := (119, [(4, (0, z5)), (0, (1, 8)), (1, (1, 6 * t + 154)), (2, (0, o)), (3, (0, n))], [], w19)) 1 rfl ?_
      refine e_Ok.rets rfl rfl ?_
      exact ⟨rfl, f22, q21T, ⟨q21x, Or.inl ((q21f (6 * t + 154) 3 (by unfold kDs; omega)).trans ((q4f (6 * t + 154) 3 (by unfold kDs; omega)).trans rfl))⟩⟩
    refine e_Ok.if1 rfl (fun h15 => ?_) (fun h15 => ?_)
    · exact e_Ok.run 1 rfl (hJ17 0 (by omega))
    · exact e_Ok.run 2 rfl (hJ17 1 (by omega))
  · refine e_Ok.swk (tg := 63) rfl (by rw [h7]; rfl) ?_
    refine e_Ok.run (t' := (66, [(4, (0, z5)), (0, (1, 8)), (1, (1, 6 * t + 154)), (2, (0, o)), (3, (0, n))], [(0, z5), (1, 8)], w2)) 2 rfl ?_
    have hJ25 : ∀ m24 : Int, 0 ≤ m24 ∧ m24 ≤ 1 → e_Ok 20 elay kcode eI (d + 1) 57 (74, [(4, (0, z5)), (0, (1, 8)), (1, (1, 6 * t + 154)), (2, (0, o)), (3, (0, n))], [(0, m24), (1, 8)], w2) (fun r w' => r = [] ∧ e_fr (kDp t) w w' ∧ e_Has kTy w' ∧ (sK w' ∧ (w' (6 * t + 154) 3 = w (6 * t + 154) 3 ∨ ((o = 12 ∨ o = 13) ∧ w' (6 * t + 154) 3 = n)))) := by
      intro m24 m24r
      refine e_Ok.callV rfl (by omega) rfl rfl rfl rfl (c_52 q4T (by omega) q4x) (fun r26 w27 h28 => ?_)
      obtain ⟨rfl, q29f, q29T, q29x⟩ := h28
      have f30 : e_fr (kDp t) w w27 := e_fr.trans f6 (e_fr.mono q29f (fun c k q => by unfold kDs at q; unfold kDp; omega))
      show e_Ok 20 elay kcode eI (d + 1) 57 (77, [(4, (0, z5)), (0, (1, 8)), (1, (1, 6 * t + 154)), (2, (0, o)), (3, (0, n))], [], w27) _
      refine e_Ok.run (t' := (119, [(4, (0, z5)), (0, (1, 8)), (1, (1, 6 * t + 154)), (2, (0, o)), (3, (0, n))], [], w27)) 1 rfl ?_
      refine e_Ok.rets rfl rfl ?_
      exact ⟨rfl, f30, q29T, ⟨q29x, Or.inl ((q29f (6 * t + 154) 3 (by unfold kDs; omega)).trans ((q4f (6 * t + 154) 3 (by unfold kDs; omega)).trans rfl))⟩⟩
    refine e_Ok.if1 rfl (fun h23 => ?_) (fun h23 => ?_)
    · exact e_Ok.run 1 rfl (hJ25 1 (by omega))
    · exact e_Ok.run 2 rfl (hJ25 0 (by omega))
  · refine e_Ok.swk (tg := 80) rfl (by rw [h7]; rfl) ?_
    refine e_Ok.run (t' := (82, [(4, (0, z5)), (0, (1, 8)), (1, (1, 6 * t + 154)), (2, (0, o)), (3, (0, n))], [(0, z5)], w2)) 1 rfl ?_
    refine e_Ok.if1 rfl (fun h31 => ?_) (fun h31 => ?_)
    · replace h31 : (z5 : Int) ≠ 0 := h31
      refine e_Ok.run (t' := (90, [(4, (0, z5)), (0, (1, 8)), (1, (1, 6 * t + 154)), (2, (0, o)), (3, (0, n))], [(0, 1), (1, 8)], w2)) 2 rfl ?_
      refine e_Ok.callV rfl (by omega) rfl rfl rfl rfl (c_52 q4T (by omega) q4x) (fun r32 w33 h34 => ?_)
      obtain ⟨rfl, q35f, q35T, q35x⟩ := h34
      have f36 : e_fr (kDp t) w w33 := e_fr.trans f6 (e_fr.mono q35f (fun c k q => by unfold kDs at q; unfold kDp; omega))
      show e_Ok 20 elay kcode eI (d + 1) 57 (93, [(4, (0, z5)), (0, (1, 8)), (1, (1, 6 * t + 154)), (2, (0, o)), (3, (0, n))], [], w33) _
      refine e_Ok.run (t' := (95, [(4, (0, z5)), (0, (1, 8)), (1, (1, 6 * t + 154)), (2, (0, o)), (3, (0, n))], [(0, n), (1, 6 * t + 154)], w33)) 2 rfl ?_
      refine e_Ok.putf rfl (lT0 (t := t) (by omega) (by omega)) rfl rfl ?_
      generalize hw37 : e_up w33 (6 * t + 154) 3 n = w37
      have f38 : e_fr (kDp t) w w37 := e_fr.up f36 hw37 (by unfold kDp; omega)
      have hT40 : e_Has kTy w37 := e_Has.upr q35T hw37 (kT_3 (t := t) (by omega) (by omega)) (by omega)
      refine e_Ok.run (t' := (119, [(4, (0, z5)), (0, (1, 8)), (1, (1, 6 * t + 154)), (2, (0, o)), (3, (0, n))], [], w37)) 1 rfl ?_
      refine e_Ok.rets rfl rfl ?_
      exact ⟨rfl, f38, hT40, ⟨(sK.fr (S := fun c k => c = 6 * t + 154 ∧ k = 3) (fun c k g => by rw [← hw37]; exact e_up_ne _ _ (by omega)) (by omega) (fun k => by omega) q35x), Or.inr ⟨by omega, (by rw [← hw37]; exact e_up_eq _ _ _ _)⟩⟩⟩
    · replace h31 : (z5 : Int) = 0 := by have q : ¬ ((z5 : Int) ≠ 0) := h31; omega
      refine e_Ok.run (t' := (119, [(4, (0, z5)), (0, (1, 8)), (1, (1, 6 * t + 154)), (2, (0, o)), (3, (0, n))], [], w2)) 1 rfl ?_
      refine e_Ok.rets rfl rfl ?_
      exact ⟨rfl, f6, q4T, ⟨q4x, Or.inl ((q4f (6 * t + 154) 3 (by unfold kDs; omega)).trans rfl)⟩⟩
  · refine e_Ok.swk (tg := 101) rfl (by rw [h7]; rfl) ?_
    refine e_Ok.run (t' := (103, [(4, (0, z5)), (0, (1, 8)), (1, (1, 6 * t + 154)), (2, (0, o)), (3, (0, n))], [(0, z5)], w2)) 1 rfl ?_
    refine e_Ok.if1 rfl (fun h41 => ?_) (fun h41 => ?_)
    · replace h41 : (z5 : Int) = 0 := h41
      refine e_Ok.run (t' := (111, [(4, (0, z5)), (0, (1, 8)), (1, (1, 6 * t + 154)), (2, (0, o)), (3, (0, n))], [(0, 0), (1, 8)], w2)) 2 rfl ?_
      refine e_Ok.callV rfl (by omega) rfl rfl rfl rfl (c_52 q4T (by omega) q4x) (fun r42 w43 h44 => ?_)
      obtain ⟨rfl, q45f, q45T, q45x⟩ := h44
      have f46 : e_fr (kDp t) w w43 := e_fr.trans f6 (e_fr.mono q45f (fun c k q => by unfold kDs at q; unfold kDp; omega))
      show e_Ok 20 elay kcode eI (d + 1) 57 (114, [(4, (0, z5)), (0, (1, 8)), (1, (1, 6 * t + 154)), (2, (0, o)), (3, (0, n))], [], w43) _
      refine e_Ok.run (t' := (116, [(4, (0, z5)), (0, (1, 8)), (1, (1, 6 * t + 154)), (2, (0, o)), (3, (0, n))], [(0, n), (1, 6 * t + 154)], w43)) 2 rfl ?_
      refine e_Ok.putf rfl (lT0 (t := t) (by omega) (by omega)) rfl rfl ?_
      generalize hw47 : e_up w43 (6 * t + 154) 3 n = w47
      have f48 : e_fr (kDp t) w w47 := e_fr.up f46 hw47 (by unfold kDp; omega)
      have hT49 : e_Has kTy w47 := e_Has.upr q45T hw47 (kT_3 (t := t) (by omega) (by omega)) (by omega)
      refine e_Ok.rets rfl rfl ?_
      exact ⟨rfl, f48, hT49, ⟨(sK.fr (S := fun c k => c = 6 * t + 154 ∧ k = 3) (fun c k g => by rw [← hw47]; exact e_up_ne _ _ (by omega)) (by omega) (fun k => by omega) q45x), Or.inr ⟨by omega, (by rw [← hw47]; exact e_up_eq _ _ _ _)⟩⟩⟩
    · replace h41 : (z5 : Int) ≠ 0 := by have q : ¬ ((z5 : Int) = 0) := h41; omega
      refine e_Ok.run (t' := (119, [(4, (0, z5)), (0, (1, 8)), (1, (1, 6 * t + 154)), (2, (0, o)), (3, (0, n))], [], w2)) 1 rfl ?_
      refine e_Ok.rets rfl rfl ?_
      exact ⟨rfl, f6, q4T, ⟨q4x, Or.inl ((q4f (6 * t + 154) 3 (by unfold kDs; omega)).trans rfl)⟩⟩
theorem c_180 {d : Nat} (hd : 21 ≤ d) {w : eW} (hT : e_Has kTy w) {t : Int} (gt : 0 ≤ t ∧ t ≤ 15) {op : Int → Int} {a p tk : Int} (ga : -1 ≤ a ∧ a ≤ 3) (gp : -2147483648 ≤ p ∧ p ≤ 2147483647) (gk : -2147483648 ≤ tk ∧ tk ≤ 2147483647) : e_Ok 20 elay kcode eI d 180 (0, [(0, (1, 6 * t + 154)), (1, (0, a)), (2, (0, p)), (3, (0, tk))], [], w) (fun r w' => r = [] ∧ e_fr (kBg t) w w' ∧ e_Has kTy w' ∧ tSx w' (6 * t + 154) op ∧ (w' (6 * t + 154) 1 = 1 ∧ w' (6 * t + 154) 2 = a ∧ w' (6 * t + 154) 7 = tk ∧ w' (6 * t + 154) 10 = 0 ∧ w' (6 * t + 154) 11 = -1) ∧ w' (6 * t + 154) 4 = 1 ∧ w' (6 * t + 154) 3 = p) := by
  obtain ⟨d, rfl⟩ : ∃ e, d = e + 1 := ⟨d - 1, by omega⟩
  refine e_Ok.run (t' := (2, [(0, (1, 6 * t + 154)), (1, (0, a)), (2, (0, p)), (3, (0, tk))], [(0, 1), (1, 6 * t + 154)], w)) 2 rfl ?_
  refine e_Ok.putf rfl (lT0 (t := t) (by omega) (by omega)) rfl rfl ?_
  generalize hw1 : e_up w (6 * t + 154) 1 1 = w1
  have f2 : e_fr (kBg t) w w1 := e_fr.up (e_fr.refl w) hw1 (by unfold kBg; omega)
  have hT3 : e_Has kTy w1 := e_Has.upr hT hw1 (kT_1 (t := t) (by omega) (by omega)) (by omega)
  refine e_Ok.run (t' := (7, [(0, (1, 6 * t + 154)), (1, (0, a)), (2, (0, p)), (3, (0, tk))], [(0, a), (1, 6 * t + 154)], w1)) 2 rfl ?_
  refine e_Ok.putf rfl (lT0 (t := t) (by omega) (by omega)) rfl rfl ?_
  generalize hw4 : e_up w1 (6 * t + 154) 2 a = w4
  have f5 : e_fr (kBg t) w w4 := e_fr.up f2 hw4 (by unfold kBg; omega)
  have hT6 : e_Has kTy w4 := e_Has.upr hT3 hw4 (kT_2 (t := t) (by omega) (by omega)) (by omega)
  refine e_Ok.run (t' := (12, [(0, (1, 6 * t + 154)), (1, (0, a)), (2, (0, p)), (3, (0, tk))], [(0, tk), (1, 6 * t + 154)], w4)) 2 rfl ?_
  refine e_Ok.putf rfl (lT0 (t := t) (by omega) (by omega)) rfl rfl ?_
  generalize hw7 : e_up w4 (6 * t + 154) 7 tk = w7
  have f8 : e_fr (kBg t) w w7 := e_fr.up f5 hw7 (by unfold kBg; omega)
  have hT9 : e_Has kTy w7 := e_Has.upr hT6 hw7 (kT_7 (t := t) (by omega) (by omega)) (by omega)
  refine e_Ok.run (t' := (17, [(0, (1, 6 * t + 154)), (1, (0, a)), (2, (0, p)), (3, (0, tk))], [(0, 0), (1, 6 * t + 154)], w7)) 2 rfl ?_
  refine e_Ok.putf rfl (lT0 (t := t) (by omega) (by omega)) rfl rfl ?_
  generalize hw10 : e_up w7 (6 * t + 154) 5 0 = w10
  have f11 : e_fr (kBg t) w w10 := e_fr.up f8 hw10 (by unfold kBg; omega)
  have hT12 : e_Has kTy w10 := e_Has.upr hT9 hw10 (kT_5 (t := t) (by omega) (by omega)) (by omega)
  refine e_Ok.run (t' := (22, [(0, (1, 6 * t + 154)), (1, (0, a)), (2, (0, p)), (3, (0, tk))], [(0, 0), (1, 6 * t + 154)], w10)) 2 rfl ?_
  refine e_Ok.putf rfl (lT0 (t := t) (by omega) (by omega)) rfl rfl ?_
  generalize hw13 : e_up w10 (6 * t + 154) 6 0 = w13
  have f14 : e_fr (kBg t) w w13 := e_fr.up f11 hw13 (by unfold kBg; omega)
  have hT15 : e_Has kTy w13 := e_Has.upr hT12 hw13 (kT_6 (t := t) (by omega) (by omega)) (by omega)
  refine e_Ok.run (t' := (27, [(0, (1, 6 * t + 154)), (1, (0, a)), (2, (0, p)), (3, (0, tk))], [(0, 0), (1, 6 * t + 154)], w13)) 2 rfl ?_
  refine e_Ok.putb rfl (lT0 (t := t) (by omega) (by omega)) rfl rfl (by omega) ?_
  generalize hw16 : e_up w13 (6 * t + 154) 10 0 = w16
  have f17 : e_fr (kBg t) w w16 := e_fr.up f14 hw16 (by unfold kBg; omega)
  have hT18 : e_Has kTy w16 := e_Has.upr hT15 hw16 (kT_10 (t := t) (by omega) (by omega)) (by omega)
  refine e_Ok.run (t' := (32, [(0, (1, 6 * t + 154)), (1, (0, a)), (2, (0, p)), (3, (0, tk))], [(0, (-1)), (1, 6 * t + 154)], w16)) 2 rfl ?_
  refine e_Ok.putf rfl (lT0 (t := t) (by omega) (by omega)) rfl rfl ?_
  generalize hw19 : e_up w16 (6 * t + 154) 11 (-1) = w19
  have f20 : e_fr (kBg t) w w19 := e_fr.up f17 hw19 (by unfold kBg; omega)
  have hT21 : e_Has kTy w19 := e_Has.upr hT18 hw19 (kT_11 (t := t) (by omega) (by omega)) (by omega)
  refine e_Ok.run (t' := (37, [(0, (1, 6 * t + 154)), (1, (0, a)), (2, (0, p)), (3, (0, tk))], [(0, 0), (1, 6 * t + 154)], w19)) 2 rfl ?_
  refine e_Ok.putf rfl (lT0 (t := t) (by omega) (by omega)) rfl rfl ?_
  generalize hw22 : e_up w19 (6 * t + 154) 14 0 = w22
  have f23 : e_fr (kBg t) w w22 := e_fr.up f20 hw22 (by unfold kBg; omega)
  have hT24 : e_Has kTy w22 := e_Has.upr hT21 hw22 (kT_14 (t := t) (by omega) (by omega)) (by omega)
  refine e_Ok.run (t' := (42, [(0, (1, 6 * t + 154)), (1, (0, a)), (2, (0, p)), (3, (0, tk))], [(0, 0), (1, 6 * t + 154)], w22)) 2 rfl ?_
  refine e_Ok.putf rfl (lT0 (t := t) (by omega) (by omega)) rfl rfl ?_
  generalize hw25 : e_up w22 (6 * t + 154) 4 0 = w25
  have f26 : e_fr (kBg t) w w25 := e_fr.up f23 hw25 (by unfold kBg; omega)
  have hT27 : e_Has kTy w25 := e_Has.upr hT24 hw25 (kT_4 (t := t) (by omega) (by omega)) (by omega)
  refine e_Ok.run (t' := (47, [(0, (1, 6 * t + 154)), (1, (0, a)), (2, (0, p)), (3, (0, tk))], [(0, 0), (1, 6 * t + 154)], w25)) 2 rfl ?_
  refine e_Ok.putf rfl (lT0 (t := t) (by omega) (by omega)) rfl rfl ?_
  generalize hw28 : e_up w25 (6 * t + 154) 15 0 = w28
  have f29 : e_fr (kBg t) w w28 := e_fr.up f26 hw28 (by unfold kBg; omega)
  have hT30 : e_Has kTy w28 := e_Has.upr hT27 hw28 (kT_15 (t := t) (by omega) (by omega)) (by omega)
  refine e_Ok.run (t' := (52, [(0, (1, 6 * t + 154)), (1, (0, a)), (2, (0, p)), (3, (0, tk))], [(0, p), (1, 6 * t + 154)], w28)) 2 rfl ?_
  refine e_Ok.callV rfl (by omega) rfl (lT0 (t := t) (by omega) (by omega)) rfl rfl (c_182 (t := t) (op := op) hT30 (by omega) (by omega) ⟨0, ⟨by have e : w28 (6 * t + 154) 15 = 0 := (by rw [← hw28]; exact e_up_eq _ _ _ _); omega, fun i g1 g2 => by have e : w28 (6 * t + 154) 4 = 0 := (by rw [← hw28]; exact (e_up_ne _ _ (Or.inr (by omega))).trans (by rw [← hw25]; exact e_up_eq _ _ _ _)); omega, fun i g1 g2 => by omega⟩⟩ (fun g => by have e : w28 (6 * t + 154) 4 = 0 := (by rw [← hw28]; exact (e_up_ne _ _ (Or.inr (by omega))).trans (by rw [← hw25]; exact e_up_eq _ _ _ _)); omega)) (fun r31 w32 h33 => ?_)
  obtain ⟨z35, rfl, q34f, q34T, q34s, q34x⟩ := h33
  have f36 : e_fr (kBg t) w w32 := e_fr.trans f29 (e_fr.mono q34f (fun c k q => by unfold kEn at q; unfold kBg; omega))
  show e_Ok 20 elay kcode eI (d + 1) 180 (55, [(0, (1, 6 * t + 154)), (1, (0, a)), (2, (0, p)), (3, (0, tk))], [(0, z35)], w32) _
  refine e_Ok.run (t' := (56, [(0, (1, 6 * t + 154)), (1, (0, a)), (2, (0, p)), (3, (0, tk))], [], w32)) 1 rfl ?_
  refine e_Ok.rets rfl rfl ?_
  exact ⟨rfl, f36, q34T, q34s, ⟨((q34f (6 * t + 154) 1 (by unfold kEn; omega)).trans (by rw [← hw28]; exact (e_up_ne _ _ (Or.inr (by omega))).trans (by rw [← hw25]; exact (e_up_ne _ _ (Or.inr (by omega))).trans (by rw [← hw22]; exact (e_up_ne _ _ (Or.inr (by omega))).trans (by rw [← hw19]; exact (e_up_ne _ _ (Or.inr (by omega))).trans (by rw [← hw16]; exact (e_up_ne _ _ (Or.inr (by omega))).trans (by rw [← hw13]; exact (e_up_ne _ _ (Or.inr (by omega))).trans (by rw [← hw10]; exact (e_up_ne _ _ (Or.inr (by omega))).trans (by rw [← hw7]; exact (e_up_ne _ _ (Or.inr (by omega))).trans (by rw [← hw4]; exact (e_up_ne _ _ (Or.inr (by omega))).trans (by rw [← hw1]; exact e_up_eq _ _ _ _))))))))))), ((q34f (6 * t + 154) 2 (by unfold kEn; omega)).trans (by rw [← hw28]; exact (e_up_ne _ _ (Or.inr (by omega))).trans (by rw [← hw25]; exact (e_up_ne _ _ (Or.inr (by omega))).trans (by rw [← hw22]; exact (e_up_ne _ _ (Or.inr (by omega))).trans (by rw [← hw19]; exact (e_up_ne _ _ (Or.inr (by omega))).trans (by rw [← hw16]; exact (e_up_ne _ _ (Or.inr (by omega))).trans (by rw [← hw13]; exact (e_up_ne _ _ (Or.inr (by omega))).trans (by rw [← hw10]; exact (e_up_ne _ _ (Or.inr (by omega))).trans (by rw [← hw7]; exact (e_up_ne _ _ (Or.inr (by omega))).trans (by rw [← hw4]; exact e_up_eq _ _ _ _)))))))))), ((q34f (6 * t + 154) 7 (by unfold kEn; omega)).trans (by rw [← hw28]; exact (e_up_ne _ _ (Or.inr (by omega))).trans (by rw [← hw25]; exact (e_up_ne _ _ (Or.inr (by omega))).trans (by rw [← hw22]; exact (e_up_ne _ _ (Or.inr (by omega))).trans (by rw [← hw19]; exact (e_up_ne _ _ (Or.inr (by omega))).trans (by rw [← hw16]; exact (e_up_ne _ _ (Or.inr (by omega))).trans (by rw [← hw13]; exact (e_up_ne _ _ (Or.inr (by omega))).trans (by rw [← hw10]; exact (e_up_ne _ _ (Or.inr (by omega))).trans (by rw [← hw7]; exact e_up_eq _ _ _ _))))))))), ((q34f (6 * t + 154) 10 (by unfold kEn; omega)).trans (by rw [← hw28]; exact (e_up_ne _ _ (Or.inr (by omega))).trans (by rw [← hw25]; exact (e_up_ne _ _ (Or.inr (by omega))).trans (by rw [← hw22]; exact (e_up_ne _ _ (Or.inr (by omega))).trans (by rw [← hw19]; exact (e_up_ne _ _ (Or.inr (by omega))).trans (by rw [← hw16]; exact e_up_eq _ _ _ _)))))), ((q34f (6 * t + 154) 11 (by unfold kEn; omega)).trans (by rw [← hw28]; exact (e_up_ne _ _ (Or.inr (by omega))).trans (by rw [← hw25]; exact (e_up_ne _ _ (Or.inr (by omega))).trans (by rw [← hw22]; exact (e_up_ne _ _ (Or.inr (by omega))).trans (by rw [← hw19]; exact e_up_eq _ _ _ _)))))⟩, (by rcases q34x with ⟨g1, g2, g3⟩ | ⟨g1, g2, g4⟩; (exact ⟨by rw [g2, show w28 (6 * t + 154) 4 = 0 from (by rw [← hw28]; exact (e_up_ne _ _ (Or.inr (by omega))).trans (by rw [← hw25]; exact e_up_eq _ _ _ _))]; rfl, g3⟩); (exfalso; rw [show w28 (6 * t + 154) 4 = 0 from (by rw [← hw28]; exact (e_up_ne _ _ (Or.inr (by omega))).trans (by rw [← hw25]; exact e_up_eq _ _ _ _))] at g4; omega))⟩
end
