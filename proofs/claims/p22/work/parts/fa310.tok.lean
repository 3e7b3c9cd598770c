noncomputable section
/-! the two readers beside one another: the texts, the token -/
/-- the same text on both sides -/
def rpA (N : Int) (w v : eW) : Prop := (w 1 0 = N ∧ v 275 9 = N ∧ 0 ≤ N ∧ N ≤ 4000) ∧ (∀ i, 0 ≤ i → i < N → w 5 i = v 281 i) ∧ e_Has kLt w ∧ e_Has kLr w ∧ e_Has mLq v ∧ e_Has mLr v
/-- the same token on both sides, and no fault -/
def rpK (N : Int) (w v : eW) : Prop := (w 1 1 = 0 ∧ v 275 88 = 0) ∧ (w 1 6 = v 275 86 ∧ w 1 7 = v 275 87 ∧ 0 ≤ w 1 6 ∧ w 1 6 ≤ w 1 7 ∧ w 1 7 ≤ N ∧ (w 1 5 = 0 ∨ w 1 6 < w 1 7)) ∧ kM (w 1 5) (w 1 8) (v 275 84) (v 275 85) ∧ w 1 5 ≠ 4
/-- a fault on both sides, at the same place -/
def rpF (w v : eW) : Prop := w 1 1 ≠ 0 ∧ v 275 88 ≠ 0 ∧ w 1 2 = v 275 89
theorem rpF.tail {cd : Int} {w v w' v' : eW} (h : rpF w v) (hk : kq cd w w') (hm : mq v v') : rpF w' v' := by
  obtain ⟨h1, h2, h3⟩ := h
  obtain ⟨a1, a2⟩ := hk.2.2.2 h1
  obtain ⟨b1, b2⟩ := hm.2.2.2.1 h2
  exact ⟨by rw [a1]; exact h1, by rw [b1]; exact h2, by rw [a2, b2]; exact h3⟩
theorem rpA.tail {N cd : Int} {w v w' v' : eW} (h : rpA N w v) (hk : kq cd w w') (hm : mq v v') (h1 : e_Has kLt w') (h2 : e_Has kLr w') (h3 : e_Has mLq v') : rpA N w' v' := by
  obtain ⟨⟨a1, a2, a3⟩, a4, a5, a6, a7, a8⟩ := h
  refine ⟨⟨hk.2.1.trans a1, hm.2.1.trans a2, a3⟩, fun i i0 i1 => ?_, h1, h2, h3, fun c k q => ?_⟩
  · rw [hk.1, hm.1]
    exact a4 i i0 i1
  · by_cases e : c = 281
    · subst e
      rw [hm.1]
      exact a8 281 k q
    · exfalso
      unfold mLr at q
      rw [if_neg e] at q
      exact absurd q (by decide)
theorem kM_nv {kd nv nv' ki wh : Int} (h : kM kd nv ki wh) (e : kd = 2 → nv = nv') : kM kd nv' ki wh := by
  rcases h with h | h | ⟨h1, h2, h3⟩ | h | h | h
  · exact Or.inl h
  · exact Or.inr (Or.inl h)
  · exact Or.inr (Or.inr (Or.inl ⟨h1, h2, h3.trans (e h1)⟩))
  · exact Or.inr (Or.inr (Or.inr (Or.inl h)))
  · exact Or.inr (Or.inr (Or.inr (Or.inr (Or.inl h))))
  · exact Or.inr (Or.inr (Or.inr (Or.inr (Or.inr h))))
/-- advance / nextToken -/
theorem t_123 {N : Int} {w v : eW} (hA : rpA N w v) (hf : w 1 1 = 0 ∧ v 275 88 = 0) (hn : w 1 7 = v 275 87) (hr : 0 ≤ w 1 7 ∧ w 1 7 ≤ N) {n d d' : Nat} {r' : List eV} {v' : eW} (hM : e_Rn 20 elay ecode eI d' 327 (0, [(0, (1, 275))], [], v) r' v') : e_Pn 20 elay kcode eI n d 123 (0, [(0, (1, 1))], [], w) (fun r w' => r = [] ∧ r' = [] ∧ rpA N w' v' ∧ rpK N w' v' ∧ w 1 7 ≤ w' 1 6 ∧ e_fr kRa w w' ∧ e_fr mTq v v') := by
  obtain ⟨⟨a1, a2, a3, a4⟩, a5, a6, a7, a8, a9⟩ := hA
  obtain ⟨u1, u2, -, -⟩ := hM.pn (fun nq => e_Ok.pnA (D0 := 600) (fun D hD => l_327 (by omega) a8 a9 a2 ⟨a3, a4⟩ rfl (by omega)) nq d')
  obtain ⟨-, kd, nv, x1, x2⟩ := hM.pn (fun nq => e_Ok.pnA (D0 := 600) (fun D hD => l_327_x (by omega) a8 a9 a2 ⟨a3, a4⟩ rfl (by omega)) nq d')
  refine (e_Pn.and (e_Ok.pnA (D0 := 600) (fun D hD => l_123 (by omega) a6 a7 (by omega)) n d) (e_Ok.pnA (D0 := 600) (fun D hD => l_123_x (by omega) a6 a7 (by omega)) n d)).imp (fun r w' h => ?_)
  obtain ⟨⟨h1, h2, h3, h4, h5, h6, h7⟩, -, h8⟩ := h
  rw [a1] at h8
  have y1 := tkP_c a5 ⟨hr.1, hr.2⟩ h8
  rw [hn] at y1
  obtain ⟨z1, z2, z3, z4⟩ := tkP_u y1 x1
  have rr := tkP_r ⟨by omega, by omega⟩ y1
  have f0 : w' 1 0 = w 1 0 := h2 1 0 (by unfold kRa; omega)
  have f1 : w' 1 1 = w 1 1 := h2 1 1 (by unfold kRa; omega)
  have f5 : ∀ i, w' 5 i = w 5 i := fun i => h2 5 i (by unfold kRa; omega)
  have g1 : v' 275 88 = v 275 88 := u2 275 88 (by unfold mTq; omega)
  have g9 : v' 275 9 = v 275 9 := u2 275 9 (by unfold mTq; omega)
  have g5 : ∀ i, v' 281 i = v 281 i := fun i => u2 281 i (by unfold mTq; omega)
  refine ⟨h1, u1, ⟨⟨by omega, by omega, a3, a4⟩, fun i i0 i1 => ?_, h3, h4, mLT_Tq u2 a8, mLH_Tq u2 a9⟩, ⟨⟨by omega, by omega⟩, ⟨z2, z3, by omega, by omega, by omega, rr.2.2.2.2.1⟩, ?_, h7⟩, h6, h2, u2⟩
  · rw [f5, g5]
    exact a5 i i0 i1
  · rw [z1]
    exact kM_nv x2 (fun e => (z4 (by omega)).symm)
end
