noncomputable section
/-! what the model keeps from call to call: what is written into the book -/
theorem opS.sm {w w' : eW} {G : Int → Gh} {x a b c : Int} {s : Int → Int} (h : opS w w' G x a b c s) (h6 : w 275 6 = 0) : sm3 w w' := by
  obtain ⟨-, -, wm, m1, -, m3⟩ := h
  rcases m3 with ⟨m3, -⟩ | ⟨-, m3⟩
  · omega
  · have f := m3.2.2.1
    have e : ∀ k, k = 3 ∨ k = 9 ∨ k = 10 → w' 275 k = w 275 k := fun k q => (f 275 k (by unfold mWr mKw mSo; omega)).trans (m1 275 k (by unfold mTi; omega))
    exact ⟨e 3 (by omega), e 9 (by omega), e 10 (by omega)⟩
theorem mRel.base {w : eW} (h : mRel w) : ∃ G, mInv w G ∧ bkE w ∧ w 276 5 ≤ 7000000 ∧ (w 275 3 = 0 ∨ ∃ S, bkI w G S) := by
  obtain ⟨h1, h2, h3, h4⟩ := h
  rcases h4 with ⟨g0, G, g⟩ | ⟨g0, G, S, g⟩
  · have h5 := h3.2 g0
    have hq : qtB w := g.1.2.2.2.2.2.2.2
    have hq0 := hq.1
    exact ⟨G, g.1.inv, ⟨by omega, Or.inl h3.1, fun y => by omega⟩, by omega, Or.inl g0⟩
  · have hI := g.inv
    have q := (g.2.1 (w 275 5) g.2.2.2.2.2.2.2.2.1 (Int.le_refl _)).2.1
    rw [← g.1, ← g.1] at q
    have t := e_Has.get h1 (c := 276) (k := 0) (lo := 0) (hi := 6000) rfl (by decide)
    have h9 := g.2.2.2.2.2.2.2.2
    exact ⟨G, hI, g.bk, by omega, Or.inr ⟨S, g⟩⟩
theorem mRel.op {w w' : eW} {G : Int → Gh} {x a b c : Int} {s : Int → Int} {C N : Prop} (h : mRel w) (hb : w 275 3 = 0 ∨ ∃ S, bkI w G S) (q : (w = w' ∧ N) ∨ (C ∧ ¬ mBk w ∧ opS w w' G x a b c s ∧ evG w w')) (ho : ∀ k, (k < 0 ∨ 33060 ≤ k) → w' 276 k = w 276 k) (hC : C → w 275 3 = 1 ∧ rowC w x a b c) (hs : ∀ k, s k = rowF w x a b c k) (g1 : -2147483648 ≤ a ∧ a ≤ 2147483647) (g2 : -2147483648 ≤ b ∧ b ≤ 2147483647) (g3 : -2147483648 ≤ c ∧ c ≤ 2147483647) : mRelF w' ∧ sm3 w w' := by
  rcases q with ⟨rfl, -⟩ | ⟨q1, q2, q3, q4⟩
  · exact ⟨h.F, rfl, rfl, rfl⟩
  · obtain ⟨r1, r2⟩ := hC q1
    have hsm := q3.sm h.2.2.1.1
    rcases hb with hb | ⟨S, hb⟩
    · omega
    · obtain ⟨S', k⟩ := hb.op q3 q4 q2 r2 hs g1 g2 g3 ho
      have q8 : e_Has hT8 w' := by
        obtain ⟨-, -, wm, m1, -, m3⟩ := q3
        rcases m3 with ⟨m3, -⟩ | ⟨-, m3⟩
        · have := h.2.2.1.1
          omega
        · exact (h.2.1.t8.t8fr m1 (fun c k y => by unfold mTi; omega)).t8fr m3.2.2.1 (fun c k y => by unfold mWr mKw mSo; omega)
      exact ⟨k.F q3.2.1.1 (hsm.1.trans r1) q8, hsm⟩
theorem m_425 {d : Nat} (hd : 27 ≤ d) {w : eW} (h : mRel w) {p1 p2 : Int} (g1 : -2147483648 ≤ p1 ∧ p1 ≤ 2147483647) (g2 : -2147483648 ≤ p2 ∧ p2 ≤ 2147483647) : e_Ok 20 elay ecode eI d 425 (0, [(0, (1, 275)), (1, (0, p1)), (2, (0, p2))], [], w) (fun r w' => ∃ z : Int, r = [(0, z)] ∧ mRelF w' ∧ sm3 w w') := by
  obtain ⟨G, hI, hB, hE, hb⟩ := h.base
  refine (e_Ok.outN (c_425 hd hI hB hE g1 g2)).imp (fun r w' q => ?_)
  obtain ⟨⟨z, hr, q⟩, ho⟩ := q
  exact ⟨z, hr, h.op hb q ho (fun hq => ⟨hq.1.2.2.2.2, ⟨by decide, fun _ => hq, fun e => absurd e (by decide), fun e => absurd e (by decide), fun e => absurd e (by decide), fun e => absurd e (by decide), fun e => absurd e (by decide), fun e => absurd e (by decide), fun e => absurd e (by decide), fun e => absurd e (by decide), fun e => absurd e (by decide), fun e => absurd e (by decide)⟩⟩) (fun k => rfl) g1 g2 (by decide)⟩
theorem m_426 {d : Nat} (hd : 45 ≤ d) {w : eW} (h : mRel w) {p1 : Int} (g1 : -2147483648 ≤ p1 ∧ p1 ≤ 2147483647) : e_Ok 20 elay ecode eI d 426 (0, [(0, (1, 275)), (1, (0, p1))], [], w) (fun r w' => ∃ z : Int, r = [(0, z)] ∧ mRelF w' ∧ sm3 w w') := by
  obtain ⟨G, hI, hB, hE, hb⟩ := h.base
  refine (e_Ok.outN (c_426 hd hI hB hE g1)).imp (fun r w' q => ?_)
  obtain ⟨⟨z, hr, q⟩, ho⟩ := q
  exact ⟨z, hr, h.op hb q ho (fun hq => ⟨hq.2.2.1, ⟨by decide, fun e => absurd e (by decide), fun _ => hq, fun e => absurd e (by decide), fun e => absurd e (by decide), fun e => absurd e (by decide), fun e => absurd e (by decide), fun e => absurd e (by decide), fun e => absurd e (by decide), fun e => absurd e (by decide), fun e => absurd e (by decide), fun e => absurd e (by decide)⟩⟩) (fun k => rfl) g1 (by decide) (by decide)⟩
theorem m_427 {d : Nat} (hd : 25 ≤ d) {w : eW} (h : mRel w) {p1 p2 : Int} (g1 : -2147483648 ≤ p1 ∧ p1 ≤ 2147483647) (g2 : -2147483648 ≤ p2 ∧ p2 ≤ 2147483647) : e_Ok 20 elay ecode eI d 427 (0, [(0, (1, 275)), (1, (0, p1)), (2, (0, p2))], [], w) (fun r w' => ∃ z : Int, r = [(0, z)] ∧ mRelF w' ∧ sm3 w w') := by
  obtain ⟨G, hI, hB, hE, hb⟩ := h.base
  refine (e_Ok.outN (c_427 hd hI hB hE g1 g2)).imp (fun r w' q => ?_)
  obtain ⟨⟨z, hr, q⟩, ho⟩ := q
  exact ⟨z, hr, h.op hb q ho (fun hq => ⟨hq.2.2, ⟨by decide, fun e => absurd e (by decide), fun e => absurd e (by decide), fun _ => hq, fun e => absurd e (by decide), fun e => absurd e (by decide), fun e => absurd e (by decide), fun e => absurd e (by decide), fun e => absurd e (by decide), fun e => absurd e (by decide), fun e => absurd e (by decide), fun e => absurd e (by decide)⟩⟩) (fun k => rfl) g1 g2 (by decide)⟩
theorem m_428 {d : Nat} (hd : 27 ≤ d) {w : eW} (h : mRel w) {p1 p2 p3 : Int} (g1 : -2147483648 ≤ p1 ∧ p1 ≤ 2147483647) (g2 : -2147483648 ≤ p2 ∧ p2 ≤ 2147483647) (g3 : -2147483648 ≤ p3 ∧ p3 ≤ 2147483647) (hz3 : 0 ≤ p3 ∧ p3 ≤ 1) : e_Ok 20 elay ecode eI d 428 (0, [(0, (1, 275)), (1, (0, p1)), (2, (0, p2)), (3, (0, p3))], [], w) (fun r w' => ∃ z : Int, r = [(0, z)] ∧ mRelF w' ∧ sm3 w w') := by
  obtain ⟨G, hI, hB, hE, hb⟩ := h.base
  refine (e_Ok.outN (c_428 hd hI hB hE g1 g2 g3 hz3)).imp (fun r w' q => ?_)
  obtain ⟨⟨z, hr, q⟩, ho⟩ := q
  exact ⟨z, hr, h.op hb q ho (fun hq => ⟨hq.2.2, ⟨by decide, fun e => absurd e (by decide), fun e => absurd e (by decide), fun e => absurd e (by decide), fun _ => ⟨hq, hz3⟩, fun e => absurd e (by decide), fun e => absurd e (by decide), fun e => absurd e (by decide), fun e => absurd e (by decide), fun e => absurd e (by decide), fun e => absurd e (by decide), fun e => absurd e (by decide)⟩⟩) (fun k => rfl) g1 g2 g3⟩
theorem m_429 {d : Nat} (hd : 25 ≤ d) {w : eW} (h : mRel w) {p1 p2 p3 : Int} (g1 : -2147483648 ≤ p1 ∧ p1 ≤ 2147483647) (g2 : -2147483648 ≤ p2 ∧ p2 ≤ 2147483647) (g3 : -2147483648 ≤ p3 ∧ p3 ≤ 2147483647) (hz2 : 0 ≤ p2 ∧ p2 ≤ 1) (hz3 : 0 ≤ p3 ∧ p3 ≤ 1) : e_Ok 20 elay ecode eI d 429 (0, [(0, (1, 275)), (1, (0, p1)), (2, (0, p2)), (3, (0, p3))], [], w) (fun r w' => ∃ z : Int, r = [(0, z)] ∧ mRelF w' ∧ sm3 w w') := by
  obtain ⟨G, hI, hB, hE, hb⟩ := h.base
  refine (e_Ok.outN (c_429 hd hI hB hE g1 g2 g3 hz2 hz3)).imp (fun r w' q => ?_)
  obtain ⟨⟨z, hr, q⟩, ho⟩ := q
  exact ⟨z, hr, h.op hb q ho (fun hq => ⟨hq.2.2, ⟨by decide, fun e => absurd e (by decide), fun e => absurd e (by decide), fun e => absurd e (by decide), fun e => absurd e (by decide), fun _ => ⟨hq, hz2, hz3⟩, fun e => absurd e (by decide), fun e => absurd e (by decide), fun e => absurd e (by decide), fun e => absurd e (by decide), fun e => absurd e (by decide), fun e => absurd e (by decide)⟩⟩) (fun k => rfl) g1 g2 g3⟩
theorem m_430 {d : Nat} (hd : 27 ≤ d) {w : eW} (h : mRel w) {p1 : Int} (g1 : -2147483648 ≤ p1 ∧ p1 ≤ 2147483647) : e_Ok 20 elay ecode eI d 430 (0, [(0, (1, 275)), (1, (0, p1))], [], w) (fun r w' => ∃ z : Int, r = [(0, z)] ∧ mRelF w' ∧ sm3 w w') := by
  obtain ⟨G, hI, hB, hE, hb⟩ := h.base
  refine (e_Ok.outN (c_430 hd hI hB hE g1)).imp (fun r w' q => ?_)
  obtain ⟨⟨z, hr, q⟩, ho⟩ := q
  exact ⟨z, hr, h.op hb q ho (fun hq => ⟨hq.1.2.1, ⟨by decide, fun e => absurd e (by decide), fun e => absurd e (by decide), fun e => absurd e (by decide), fun e => absurd e (by decide), fun e => absurd e (by decide), fun _ => hq, fun e => absurd e (by decide), fun e => absurd e (by decide), fun e => absurd e (by decide), fun e => absurd e (by decide), fun e => absurd e (by decide)⟩⟩) (fun k => rfl) g1 (by decide) (by decide)⟩
theorem m_431 {d : Nat} (hd : 27 ≤ d) {w : eW} (h : mRel w) {p1 : Int} (g1 : -2147483648 ≤ p1 ∧ p1 ≤ 2147483647) : e_Ok 20 elay ecode eI d 431 (0, [(0, (1, 275)), (1, (0, p1))], [], w) (fun r w' => ∃ z : Int, r = [(0, z)] ∧ mRelF w' ∧ sm3 w w') := by
  obtain ⟨G, hI, hB, hE, hb⟩ := h.base
  refine (e_Ok.outN (c_431 hd hI hB hE g1)).imp (fun r w' q => ?_)
  obtain ⟨⟨z, hr, q⟩, ho⟩ := q
  exact ⟨z, hr, h.op hb q ho (fun hq => ⟨hq.2.1, ⟨by decide, fun e => absurd e (by decide), fun e => absurd e (by decide), fun e => absurd e (by decide), fun e => absurd e (by decide), fun e => absurd e (by decide), fun e => absurd e (by decide), fun _ => hq, fun e => absurd e (by decide), fun e => absurd e (by decide), fun e => absurd e (by decide), fun e => absurd e (by decide)⟩⟩) (fun k => rfl) g1 (by decide) (by decide)⟩
theorem m_432 {d : Nat} (hd : 25 ≤ d) {w : eW} (h : mRel w) {p1 : Int} (g1 : -2147483648 ≤ p1 ∧ p1 ≤ 2147483647) : e_Ok 20 elay ecode eI d 432 (0, [(0, (1, 275)), (1, (0, p1))], [], w) (fun r w' => ∃ z : Int, r = [(0, z)] ∧ mRelF w' ∧ sm3 w w') := by
  obtain ⟨G, hI, hB, hE, hb⟩ := h.base
  refine (e_Ok.outN (c_432 hd hI hB hE g1)).imp (fun r w' q => ?_)
  obtain ⟨⟨z, hr, q⟩, ho⟩ := q
  exact ⟨z, hr, h.op hb q ho (fun hq => ⟨hq.2.2.1, ⟨by decide, fun e => absurd e (by decide), fun e => absurd e (by decide), fun e => absurd e (by decide), fun e => absurd e (by decide), fun e => absurd e (by decide), fun e => absurd e (by decide), fun e => absurd e (by decide), fun _ => hq, fun e => absurd e (by decide), fun e => absurd e (by decide), fun e => absurd e (by decide)⟩⟩) (fun k => rfl) g1 (by decide) (by decide)⟩
theorem m_433 {d : Nat} (hd : 27 ≤ d) {w : eW} (h : mRel w) {p1 p2 p3 : Int} (g1 : -2147483648 ≤ p1 ∧ p1 ≤ 2147483647) (g2 : -2147483648 ≤ p2 ∧ p2 ≤ 2147483647) (g3 : -2147483648 ≤ p3 ∧ p3 ≤ 2147483647) : e_Ok 20 elay ecode eI d 433 (0, [(0, (1, 275)), (1, (0, p1)), (2, (0, p2)), (3, (0, p3))], [], w) (fun r w' => ∃ z : Int, r = [(0, z)] ∧ mRelF w' ∧ sm3 w w') := by
  obtain ⟨G, hI, hB, hE, hb⟩ := h.base
  refine (e_Ok.outN (c_433 hd hI hB hE g1 g2 g3)).imp (fun r w' q => ?_)
  obtain ⟨⟨z, hr, q⟩, ho⟩ := q
  exact ⟨z, hr, h.op hb q ho (fun hq => ⟨hq.2.2.1, ⟨by decide, fun e => absurd e (by decide), fun e => absurd e (by decide), fun e => absurd e (by decide), fun e => absurd e (by decide), fun e => absurd e (by decide), fun e => absurd e (by decide), fun e => absurd e (by decide), fun e => absurd e (by decide), fun _ => hq, fun e => absurd e (by decide), fun e => absurd e (by decide)⟩⟩) (fun k => rfl) g1 g2 g3⟩
theorem m_434 {d : Nat} (hd : 25 ≤ d) {w : eW} (h : mRel w) {p1 p2 : Int} (g1 : -2147483648 ≤ p1 ∧ p1 ≤ 2147483647) (g2 : -2147483648 ≤ p2 ∧ p2 ≤ 2147483647) : e_Ok 20 elay ecode eI d 434 (0, [(0, (1, 275)), (1, (0, p1)), (2, (0, p2))], [], w) (fun r w' => ∃ z : Int, r = [(0, z)] ∧ mRelF w' ∧ sm3 w w') := by
  obtain ⟨G, hI, hB, hE, hb⟩ := h.base
  refine (e_Ok.outN (c_434 hd hI hB hE g1 g2)).imp (fun r w' q => ?_)
  obtain ⟨⟨z, hr, q⟩, ho⟩ := q
  exact ⟨z, hr, h.op hb q ho (fun hq => ⟨hq.2.2, ⟨by decide, fun e => absurd e (by decide), fun e => absurd e (by decide), fun e => absurd e (by decide), fun e => absurd e (by decide), fun e => absurd e (by decide), fun e => absurd e (by decide), fun e => absurd e (by decide), fun e => absurd e (by decide), fun e => absurd e (by decide), fun _ => hq, fun e => absurd e (by decide)⟩⟩) (fun k => rfl) g1 g2 (by decide)⟩
theorem m_419 {d : Nat} (hd : 27 ≤ d) {w : eW} (h : mRel w) {p1 : Int} (g1 : -2147483648 ≤ p1 ∧ p1 ≤ 2147483647) : e_Ok 20 elay ecode eI d 419 (0, [(0, (1, 275)), (1, (0, p1))], [], w) (fun r w' => ∃ z : Int, r = [(0, z)] ∧ mRelF w' ∧ sm3 w w') := by
  obtain ⟨G, hI, hB, hE, hb⟩ := h.base
  refine (e_Ok.outN (c_419 hd hI hB hE g1)).imp (fun r w' q => ?_)
  obtain ⟨⟨z, hr, q⟩, ho⟩ := q
  exact ⟨z, hr, h.op hb q ho (fun hq => ⟨hq.2.1, ⟨by decide, fun e => absurd e (by decide), fun e => absurd e (by decide), fun e => absurd e (by decide), fun e => absurd e (by decide), fun e => absurd e (by decide), fun e => absurd e (by decide), fun e => absurd e (by decide), fun e => absurd e (by decide), fun e => absurd e (by decide), fun e => absurd e (by decide), fun _ => hq⟩⟩) (fun k => rfl) g1 (by decide) (by decide)⟩
end
