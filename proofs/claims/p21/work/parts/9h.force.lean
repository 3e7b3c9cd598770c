noncomputable section
/-! force: what was nought before, and what has risen behind -/
def K1 (c k : Int) : Prop := K0 c k ∨ (c = 327 ∧ 0 ≤ k ∧ k ≤ 63)
def bcF (w : eW) (k : Int) : Int := (e_phi 321 (0, [(0, (1, 275))], [], e_pz K0 w)).2 327 k
theorem mAc.low {w u : eW} (h : mAc w) (hu : ∀ c k, K0 c k → u c k = w c k) : mAc u := mAc.fr' (S := fun c k => ¬ K0 c k) (fun k q => q (by exact (by decide : (-1 : Int) ≤ 63))) (fun c k q => hu c k (Classical.not_not.mp q)) h
theorem d_321 {d : Nat} (hd : 21 ≤ d) {w : eW} (hT : e_Has mTy w) (hA : mAc w) : e_Ok 20 elay ecode eI d 321 (0, [(0, (1, 275))], [], w) (fun r w' => (r = [] ∧ e_fr mW w w' ∧ e_kr w' 327 0 63 0 1) ∧ ∀ k, 0 ≤ k → k ≤ 63 → w' 327 k = bcF w k) := by
  refine (e_Ok.det (l := [(0, (1, 275))]) K0 (by decide) (fun u hu => c_321 hd (hT.low hu) (hA.low hu))).imp (fun r v h => ?_)
  obtain ⟨h1, ⟨-, -, h2⟩, -, h4⟩ := h
  refine ⟨h1, fun k g1 g2 => h4 327 k ?_⟩
  have := h2 k g1 g2
  unfold e_okz
  simp only [Bool.and_eq_true, decide_eq_true_eq]
  omega
def hcF (w : eW) (k : Int) : Int := (e_phi 322 (0, [(0, (1, 275))], [], e_pz K1 w)).2 276 k
theorem d_322 {d : Nat} (hd : 21 ≤ d) {w : eW} (hT : e_Has mTy w) (hA : mAc w) (hk : e_kr w 327 0 63 0 1) : e_Ok 20 elay ecode eI d 322 (0, [(0, (1, 275))], [], w) (fun r w' => (r = [] ∧ e_fr mR w w' ∧ e_Has mTy w') ∧ ∀ k, w' 276 k = hcF w k) := by
  refine (e_Ok.det (l := [(0, (1, 275))]) K1 (by decide) (fun u hu => c_322 hd (hT.low (fun c k q => hu c k (Or.inl q))) (hA.low (fun c k q => hu c k (Or.inl q))) (fun i g1 g2 => by rw [hu 327 i (Or.inr ⟨rfl, g1, g2⟩)]; exact hk i g1 g2))).imp (fun r v h => ?_)
  obtain ⟨h1, ⟨-, -, h2⟩, -, h4⟩ := h
  refine ⟨h1, fun k => h4 276 k ?_⟩
  have := h2.now k
  unfold e_okz
  simp only [Bool.and_eq_true, decide_eq_true_eq]
  exact this
/-- the cell before behindChange -/
def fcZ (w : eW) (p v o : Int) : eW := fun c k => if c = 327 then bcF w k else e_up (e_up w 276 (p + 224) o) 276 (p + 288) (if o = 0 then 0 else v) c k
theorem K0_w {c k : Int} (q : K0 c k) : ¬ mW c k := by
  intro h
  rcases h with rfl | rfl <;> exact absurd q (by decide : ¬ ((1 : Int) ≤ 0))
theorem fcZ_low {w w1 w2 w4 : eW} {p v o x : Int} (hW : e_fr mW w w1) (h7 : ∀ k, 0 ≤ k → k ≤ 63 → w1 327 k = bcF w k) (h1 : e_up w1 276 (p + 224) o = w2) (h2 : e_up w2 276 (p + 288) x = w4) (hx : x = if o = 0 then 0 else v) : ∀ c k, K1 c k → w4 c k = fcZ w p v o c k := by
  intro c k q
  rw [← h2, ← h1, hx]
  unfold fcZ
  by_cases e : c = 327
  · rw [if_pos e, e, e_up_ne _ _ (Or.inl (by decide)), e_up_ne _ _ (Or.inl (by decide))]
    rcases q with q | q
    · rw [e] at q
      exact absurd q (by decide : ¬ ((1 : Int) ≤ 0))
    · exact h7 k q.2.1 q.2.2
  · rw [if_neg e]
    have q1 : K0 c k := q.resolve_right (fun h => e h.1)
    unfold e_up
    rw [hW c k (K0_w q1)]
theorem fc_eq {w w1 w2 w4 : eW} {p v o x : Int} (hW : e_fr mW w w1) (h7 : ∀ k, 0 ≤ k → k ≤ 63 → w1 327 k = bcF w k) (h1 : e_up w1 276 (p + 224) o = w2) (h2 : e_up w2 276 (p + 288) x = w4) (hx : x = if o = 0 then 0 else v) (k : Int) : hcF w4 k = hcF (fcZ w p v o) k := by
  unfold hcF
  rw [e_pz_eq (fcZ_low hW h7 h1 h2 hx)]
theorem w_idl {c k : Int} (q : mW c k) : idl c k := by unfold mW at q; unfold idl; omega
theorem w_ti {c k : Int} (q : mW c k) : mTi c k := by unfold mW at q; unfold mTi; omega
theorem r_idl {c k : Int} (q : mR c k) : idl c k := by unfold mR at q; unfold idl; omega
theorem r_ti {c k : Int} (q : mR c k) : mTi c k := by unfold mR at q; unfold mTi; omega
end
