noncomputable section
/-! what the model keeps from call to call: open -/
theorem out_277 {k : Int} (h : k < 0 ∨ 33060 ≤ k) : e_out elay 277 k := ⟨by decide, by decide, fun kd cl n e => by
  have e1 : (some ((1 : Nat), (0 : Nat), (33060 : Nat))).map (fun q => q.2.2) = (elay[(277 : Int).toNat]?).map (fun q => q.2.2) := by decide +kernel
  rw [e] at e1
  have : 33060 = n := Option.some.inj e1
  omega⟩
theorem op_hT {w w' : eW} (hF : e_fr mOp w w') (hH : e_Has hTy w) (hT : e_Has mTy w') (h5 : w' 275 5 = 0) (hk : ∀ k, 0 ≤ k → k < 33060 → w' 277 k = w' 276 k) (ho : ∀ k, (k < 0 ∨ 33060 ≤ k) → w' 277 k = w 277 k) : e_Has hTy w' := fun c k hl => by
  by_cases q : mOp c k
  · unfold mOp mK at q
    by_cases c7 : c = 277
    · subst c7
      by_cases g : 0 ≤ k ∧ k < 33060
      · rw [hk k g.1 g.2]
        exact e_Has.now hT k
      · rw [ho k (by omega)]
        exact hH 277 k hl
    · rcases q with ⟨rfl, rfl | rfl⟩ | (⟨rfl, -⟩ | rfl | rfl) | q
      · exact absurd hl (by decide)
      · rw [h5]
        decide
      · exact absurd hl (show ¬ ((1 : Int) ≤ 0) by decide)
      · exact absurd hl (show ¬ ((1 : Int) ≤ 0) by decide)
      · exact absurd hl (show ¬ ((1 : Int) ≤ 0) by decide)
      · exact absurd q c7
  · rw [hF c k q]
    exact hH c k hl
theorem m_296 {d : Nat} (hd : 25 ≤ d) {w : eW} (h : mRel w) : e_Ok 20 elay ecode eI d 296 (0, [(0, (1, 275))], [], w) (fun r w' => ∃ z : Int, r = [(0, z)] ∧ mRel w' ∧ w' 275 3 = 1 ∧ w' 275 9 = w 275 9 ∧ w' 275 10 = w 275 10) := by
  have h3 := e_Has.get h.1 (c := 275) (k := 3) (lo := 0) (hi := 1) rfl (by decide)
  obtain ⟨h1, h2, h6, h4⟩ := id h
  rcases h4 with ⟨g0, G, g⟩ | ⟨g0, G, S, g⟩
  · refine (e_Ok.out eAlk (c_296 hd g.1.inv)).imp (fun r w' q => ?_)
    obtain ⟨⟨z, hr, q⟩, ho⟩ := q
    rcases q with ⟨rfl, q⟩ | ⟨q1, q2, q3, q4, q5, q7⟩
    · exact absurd g0 q
    · have e9 : w' 275 9 = w 275 9 := q5 275 9 (by unfold mOp mK; omega)
      have e10 : w' 275 10 = w 275 10 := q5 275 10 (by unfold mOp mK; omega)
      have e6 : w' 275 6 = 0 := (q5 275 6 (by unfold mOp mK; omega)).trans h6.1
      have e18 : w' 275 118 = w 275 118 := q5 275 118 (by unfold mOp mK; omega)
      have t0 : w' 276 0 = w 276 0 := q5 276 0 (by unfold mOp mK; omega)
      have t5 : w' 276 5 = w 276 5 := q5 276 5 (by unfold mOp mK; omega)
      have h118 := e_Has.get h2 (c := 275) (k := 118) (lo := 0) (hi := 60) rfl (by decide)
      have hq : qtB w := g.1.2.2.2.2.2.2.2
      have hq0 := hq.1
      have hH' := op_hT q5 h2 q4.1 q3 q7 (fun k y => ho 277 k (out_277 y))
      exact ⟨z, hr, ⟨q4.1, hH', ⟨e6, fun g => by omega⟩, Or.inr ⟨q2, G, _, bkI.open0 q4 q3 e6 (by omega) (by omega) q7⟩⟩, q2, e9, e10⟩
  · refine (c_296 hd g.inv).imp (fun r w' q => ?_)
    obtain ⟨z, hr, q⟩ := q
    rcases q with ⟨rfl, q⟩ | ⟨q1, -⟩
    · exact ⟨z, hr, h, g0, rfl, rfl⟩
    · omega
end
