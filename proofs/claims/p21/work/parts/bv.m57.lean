noncomputable section
theorem c_436_0 {d : Nat} (hd : 22 ≤ d) {w : eW} (hT : e_Has mTy w) (hH : e_Has hTy w) {p1 : Int} (g1 : -2147483648 ≤ p1 ∧ p1 ≤ 2147483647) (h3 : w 275 3 = 0) : e_Ok 20 elay ecode eI d 436 (0, [(0, (1, 275)), (1, (0, p1))], [], w) (fun r w' => ∃ z : Int, r = [(0, z)] ∧ w = w') := by
  obtain ⟨d, rfl⟩ : ∃ e, d = e + 1 := ⟨d - 1, by omega⟩
  refine e_Ok.run (t' := (4, [(0, (1, 275)), (1, (0, p1))], [(1, 275), (4, 0), (4, p1)], w)) 4 rfl ?_
  have h1 := (e_Has.get hH (c := 275) (k := 5) (lo := 0) (hi := 2000) rfl (by decide))
  refine e_Ok.getf (z := w 275 5) rfl (el_o rfl) rfl rfl rfl (by omega) ?_
  refine e_Ok.run (t' := (8, [(0, (1, 275)), (1, (0, p1))], [(4, w 275 5), (4, 0), (4, p1)], w)) 1 rfl ?_
  refine e_Ok.callS rfl (by omega) rfl rfl (c_266) (fun r2 w3 h4 => ?_)
  obtain ⟨z5, rfl, rfl, q6⟩ := h4
  obtain ⟨rfl, q6⟩ | ⟨rfl, q6⟩ := q6
  · show e_Ok 20 elay ecode eI (d + 1) 436 (11, [(0, (1, 275)), (1, (0, p1))], [(0, 1)], w) _
    refine e_Ok.if1 rfl (fun h7 => ?_) (fun h7 => ?_)
    · replace h7 : (1 : Int) ≠ 0 := h7
      refine e_Ok.run (t' := (17, [(0, (1, 275)), (1, (0, p1))], [(1, 275)], w)) 1 rfl ?_
      refine e_Ok.getf (z := w 275 3) rfl (el_o rfl) rfl rfl rfl (by omega) ?_
      refine e_Ok.if1 rfl (fun h8 => ?_) (fun h8 => ?_)
      · replace h8 : (w 275 3 : Int) ≠ 0 := h8
        exfalso; omega
      · replace h8 : (w 275 3 : Int) = 0 := by have q : ¬ ((w 275 3 : Int) ≠ 0) := h8; omega
        refine e_Ok.run (t' := (25, [(0, (1, 275)), (1, (0, p1))], [(0, (-2))], w)) 1 rfl ?_
        refine e_Ok.rets rfl rfl ?_
        exact ⟨_, rfl, rfl⟩
    · replace h7 : (1 : Int) = 0 := by have q : ¬ ((1 : Int) ≠ 0) := h7; omega
      exfalso; omega
  · show e_Ok 20 elay ecode eI (d + 1) 436 (11, [(0, (1, 275)), (1, (0, p1))], [(0, 0)], w) _
    refine e_Ok.if1 rfl (fun h9 => ?_) (fun h9 => ?_)
    · replace h9 : (0 : Int) ≠ 0 := h9
      exfalso; omega
    · replace h9 : (0 : Int) = 0 := by have q : ¬ ((0 : Int) ≠ 0) := h9; omega
      refine e_Ok.run (t' := (15, [(0, (1, 275)), (1, (0, p1))], [(0, (-1))], w)) 1 rfl ?_
      refine e_Ok.rets rfl rfl ?_
      exact ⟨_, rfl, rfl⟩
/-! what the model keeps from call to call: plan, back -/
theorem bInvP.low {w u : eW} {G : Int → Gh} (g : bInvP w G) (hK : ∀ c k, K0 c k → u c k = w c k) : bInvP u G := by
  have hF : e_fr (fun c k => ¬ K0 c k) w u := fun c k q => hK c k (Classical.not_not.mp q)
  exact ⟨g.1.cfg hF (g.1.1.low hK) (fun c k q => ⟨fun e => q (by rw [e]; exact K0_now k), K0_cf q⟩), g.2⟩
theorem mRel.pm {w w' : eW} (h : mRel w) (hF : e_fr mPm w w') (hs : ∀ k, w' 276 k = w 276 k) (hp : w 275 118 ≤ w' 275 118 ∧ w' 275 118 ≤ 60) : mRelF w' ∧ sm3 w w' := by
  have hK : ∀ c k, K0 c k → w' c k = w c k := fun c k q => by
    by_cases e : c = 276
    · rw [e]; exact hs k
    · exact hF c k (fun y => e (pm_K0 y q))
  have hT := h.1.low hK
  have f : ∀ k, k = 3 ∨ k = 5 ∨ k = 6 ∨ k = 9 ∨ k = 10 → w' 275 k = w 275 k := fun k q => hF 275 k (by unfold mPm; omega)
  have e3 := f 3 (by omega)
  have e5 := f 5 (by omega)
  have e6 := f 6 (by omega)
  refine ⟨?_, e3, f 9 (by omega), f 10 (by omega)⟩
  obtain ⟨h1, h2, h3, h4⟩ := h
  rcases h4 with ⟨g0, G, g⟩ | ⟨g0, G, S, g⟩
  · refine ⟨fun u hu hH => ?_, h2.t8.t8fr hF (fun c k y => by unfold mPm; omega)⟩
    have z : ∀ {x : Int}, -2147483648 ≤ x → x ≤ 2147483647 → inZ x := fun a b => ⟨a, b⟩
    have hu0 := mor.K hT hu
    have h35 := h3.2 g0
    have h36 := h3.1
    have u3 : u 275 3 = w' 275 3 := hu _ _ (z (by omega) (by omega))
    have u5 : u 275 5 = w' 275 5 := hu _ _ (z (by omega) (by omega))
    have u6 : u 275 6 = w' 275 6 := hu _ _ (z (by omega) (by omega))
    have q118 := e_Has.get h2 (c := 275) (k := 118) (lo := 0) (hi := 60) rfl (by decide)
    have u118 : u 275 118 = w' 275 118 := hu _ _ (z (by omega) (by omega))
    exact ⟨hT.low hu0, hH.z (by omega) (by omega) (by omega), ⟨by omega, fun _ => by omega⟩, Or.inl ⟨by omega, G, g.low (fun c k q => (hu0 c k q).trans (hK c k q))⟩⟩
  · exact (g.low (frB.pm hF) hs hp (e6.trans h3.1)).F hT (e3.trans g0) (h2.t8.t8fr hF (fun c k y => by unfold mPm; omega))
theorem m_418 {d : Nat} (hd : 33 ≤ d) {w : eW} (h : mRel w) {p1 p2 p3 : Int} (g1 : -2147483648 ≤ p1 ∧ p1 ≤ 2147483647) (g2 : -2147483648 ≤ p2 ∧ p2 ≤ 2147483647) (g3 : -2147483648 ≤ p3 ∧ p3 ≤ 2147483647) : e_Ok 20 elay ecode eI d 418 (0, [(0, (1, 275)), (1, (0, p1)), (2, (0, p2)), (3, (0, p3))], [], w) (fun r w' => ∃ z : Int, r = [(0, z)] ∧ mRelF w' ∧ sm3 w w') := by
  obtain ⟨G, hI, hB, hE, hb⟩ := h.base
  have h118 := e_Has.get h.2.1 (c := 275) (k := 118) (lo := 0) (hi := 60) rfl (by decide)
  have h10 := e_Has.get h.1 (c := 275) (k := 10) (lo := 0) (hi := 4) rfl (by decide)
  refine (e_Ok.outN (c_418 hd hI hB g1 g2 g3 h118 h.2.2.1.1)).imp (fun r w' q => ?_)
  obtain ⟨⟨z, hr, q⟩, ho⟩ := q
  refine ⟨z, hr, ?_⟩
  rcases q with ⟨q1, q2, q3, q4⟩ | ⟨q1, q2, q3⟩
  · exact h.pm q1 q2 ⟨q3, q4⟩
  · have r1 := q1.2.1
    have ra := q1.1.1
    rcases hb with hb | ⟨S, hb⟩
    · omega
    · obtain ⟨S', k⟩ := hb.plan q1 q2 q3 (by omega) ho
      obtain ⟨z', f, wm, z1, z2, z3, z4, z5, hw, z7, z8⟩ := q3
      have e : ∀ k, k = 3 ∨ k = 9 ∨ k = 10 → w' 275 k = w 275 k := fun k y => (hw.2.2.1 275 k (by unfold mWr mKw mSo; omega)).trans (z2 275 k (by unfold mPm; omega))
      exact ⟨k.F k.inv.1 ((e 3 (by omega)).trans r1) ((h.2.1.t8.t8fr z2 (fun c k y => by unfold mPm; omega)).t8fr hw.2.2.1 (fun c k y => by unfold mWr mKw mSo; omega)), e 3 (by omega), e 9 (by omega), e 10 (by omega)⟩
theorem m_436 {d : Nat} (hd : 49 ≤ d) {w : eW} (h : mRel w) {p1 : Int} (g1 : -2147483648 ≤ p1 ∧ p1 ≤ 2147483647) : e_Ok 20 elay ecode eI d 436 (0, [(0, (1, 275)), (1, (0, p1))], [], w) (fun r w' => ∃ z : Int, r = [(0, z)] ∧ mRelF w' ∧ sm3 w w') := by
  rcases h.2.2.2 with ⟨g0, G, g⟩ | ⟨g0, G, S, g⟩
  · refine (c_436_0 (by omega) h.1 h.2.1 g1 g0).imp (fun r w' q => ?_)
    obtain ⟨z, hr, rfl⟩ := q
    exact ⟨z, hr, h.F, rfl, rfl, rfl⟩
  · refine (c_436 hd g g1).imp (fun r w' q => ?_)
    obtain ⟨z, hr, q⟩ := q
    rcases q with rfl | ⟨q1, q2⟩
    · exact ⟨z, hr, h.F, rfl, rfl, rfl⟩
    · have e : ∀ k, k = 3 ∨ k = 9 ∨ k = 10 → w' 275 k = w 275 k := fun k y => q2 275 k (by unfold mBb mTi mPm; omega)
      exact ⟨z, hr, q1.F q1.inv.1 ((e 3 (by omega)).trans g0) (h.2.1.t8.t8fr q2 (fun c k y => by unfold mBb mTi mPm; omega)), e 3 (by omega), e 9 (by omega), e 10 (by omega)⟩
end
