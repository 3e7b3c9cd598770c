noncomputable section
/-! what the model keeps from call to call: the rest of building, and what only looks -/
theorem mS_hn (c k : Int) (h : mS c k) : hTy c k = (1, 0) := by
  unfold mS at h
  rcases h with h | h | ⟨rfl, h⟩
  · exact hTy_none (by omega)
  · exact hTy_none (by omega)
  · have h' : k = 58 ∨ k = 59 ∨ k = 60 ∨ k = 78 ∨ k = 79 ∨ k = 80 ∨ k = 81 ∨ k = 82 ∨ k = 83 ∨ k = 84 ∨ k = 85 ∨ k = 86 ∨ k = 87 ∨ k = 94 ∨ k = 96 ∨ k = 97 ∨ k = 98 ∨ k = 99 ∨ k = 100 ∨ k = 102 ∨ k = 110 ∨ k = 111 ∨ k = 112 := by omega
    rcases h' with rfl | rfl | rfl | rfl | rfl | rfl | rfl | rfl | rfl | rfl | rfl | rfl | rfl | rfl | rfl | rfl | rfl | rfl | rfl | rfl | rfl | rfl | rfl
    all_goals rfl
def scN (c k : Int) : Prop := (c ≠ 276 ∧ cfN c k) ∧ mTy c k = (1, 0) ∧ ¬ ((277 ≤ c ∧ c ≤ 279) ∨ (354 ≤ c ∧ c ≤ 356) ∨ (c = 275 ∧ (k = 3 ∨ k = 5 ∨ k = 6 ∨ k = 10 ∨ k = 118)))
theorem mRel.gen {S : Int → Int → Prop} {w w' : eW} (h : mRel w) (hF : e_fr S w w') (hS : ∀ c k, S c k → scN c k) (hT : e_Has mTy w') (hH : e_Has hTy w') : mRel w' ∧ w' 275 3 = w 275 3 ∧ w' 275 10 = w 275 10 := by
  obtain ⟨h1, h2, h3, h4⟩ := h
  have f : ∀ k, k = 3 ∨ k = 5 ∨ k = 6 ∨ k = 10 ∨ k = 118 → w' 275 k = w 275 k := fun k q => hF 275 k (fun y => (hS _ _ y).2.2 (Or.inr (Or.inr ⟨rfl, q⟩)))
  have e3 := f 3 (by omega)
  refine ⟨⟨hT, hH, ⟨(f 6 (by omega)).trans h3.1, fun g => (f 5 (by omega)).trans (h3.2 (e3.symm.trans g))⟩, ?_⟩, e3, f 10 (by omega)⟩
  rcases h4 with ⟨g1, G, g⟩ | ⟨g1, G, S', g⟩
  · exact Or.inl ⟨e3.trans g1, G, g.1.cfg hF hT (fun c k y => (hS c k y).1), g.2⟩
  · have h118 := e_Has.get hH (c := 275) (k := 118) (lo := 0) (hi := 60) rfl (by decide)
    have e118 := f 118 (by omega)
    refine Or.inr ⟨e3.trans g1, G, S', g.low (fun c k c6 q => hF c k (fun y => ?_)) (fun k => hF 276 k (fun y => (hS _ _ y).1.1 rfl)) (by omega) ((f 6 (by omega)).trans h3.1)⟩
    obtain ⟨y1, y2, y3⟩ := hS c k y
    rcases q with q | q | q | q
    · unfold K0 at q
      rw [y2] at q
      exact absurd q (by decide)
    · exact y3 (Or.inl q)
    · exact y3 (Or.inr (Or.inl q))
    · exact y3 (Or.inr (Or.inr ⟨q.1, by omega⟩))
theorem mRel.scr {S : Int → Int → Prop} {w w' : eW} (h : mRel w) (hF : e_fr S w w') (hS : ∀ c k, S c k → mS c k) : mRel w' ∧ sm3 w w' := by
  have hF' := hF.mono hS
  have e9 : w' 275 9 = w 275 9 := hF' 275 9 (by unfold mS; omega)
  obtain ⟨r1, r2, r3⟩ := h.gen hF' (fun c k y => ⟨⟨by unfold mS at y; omega, by unfold mS at y; unfold cfN; omega⟩, mS_none c k y, by unfold mS at y; omega⟩) (mT_S hF' h.1) (h.2.1.fr mS_hn hF')
  exact ⟨r1, r2, e9, r3⟩
theorem mRel.same {w : eW} (h : mRel w) : mRel w ∧ sm3 w w := ⟨h, rfl, rfl, rfl⟩
theorem mRel.ac {w : eW} (h : mRel w) : mAc w := by
  rcases h.2.2.2 with ⟨-, G, g⟩ | ⟨-, G, S, g⟩
  · exact g.1.2.1
  · exact g.inv.2.1
theorem mRel.or {w : eW} (h : mRel w) : mOr w (w 275 40) := by
  rcases h.2.2.2 with ⟨-, G, g⟩ | ⟨-, G, S, g⟩
  · exact g.1.2.2.2.2.2.1
  · exact g.inv.2.2.2.2.2.2.1
theorem m_437 {d : Nat} (hd : 23 ≤ d) {w : eW} (h : mRel w) : e_Ok 20 elay ecode eI d 437 (0, [(0, (1, 275))], [], w) (fun r w' => ∃ z : Int, r = [(0, z)] ∧ mRel w' ∧ sm3 w w') :=
  (c_437 hd h.1 h.2.1).imp (fun r w' q => by obtain ⟨z, hr, rfl⟩ := q; exact ⟨z, hr, h.same⟩)
theorem m_448 {d : Nat} (hd : 23 ≤ d) {w : eW} (h : mRel w) : e_Ok 20 elay ecode eI d 448 (0, [(0, (1, 275))], [], w) (fun r w' => ∃ z : Int, r = [(0, z)] ∧ mRel w' ∧ sm3 w w') :=
  (c_448 hd h.1 h.2.1).imp (fun r w' q => by obtain ⟨z, hr, rfl⟩ := q; exact ⟨z, hr, h.same⟩)
theorem m_445 {d : Nat} (hd : 23 ≤ d) {w : eW} (h : mRel w) {p1 : Int} (g1 : -2147483648 ≤ p1 ∧ p1 ≤ 2147483647) : e_Ok 20 elay ecode eI d 445 (0, [(0, (1, 275)), (1, (0, p1))], [], w) (fun r w' => ∃ z : Int, r = [(0, z)] ∧ mRel w' ∧ sm3 w w') :=
  (c_445 hd h.1 h.2.1 g1).imp (fun r w' q => by obtain ⟨z, hr, rfl⟩ := q; exact ⟨z, hr, h.same⟩)
theorem m_439 {d : Nat} (hd : 23 ≤ d) {w : eW} (h : mRel w) {p1 p2 : Int} (g1 : -2147483648 ≤ p1 ∧ p1 ≤ 2147483647) (g2 : -2147483648 ≤ p2 ∧ p2 ≤ 2147483647) : e_Ok 20 elay ecode eI d 439 (0, [(0, (1, 275)), (1, (0, p1)), (2, (0, p2))], [], w) (fun r w' => ∃ z : Int, r = [(0, z)] ∧ mRel w' ∧ sm3 w w') :=
  (c_439 hd h.1 h.2.1 g1 g2).imp (fun r w' q => by obtain ⟨z, hr, rfl⟩ := q; exact ⟨z, hr, h.same⟩)
theorem m_443 {d : Nat} (hd : 23 ≤ d) {w : eW} (h : mRel w) {p1 p2 : Int} (g1 : -2147483648 ≤ p1 ∧ p1 ≤ 2147483647) (g2 : -2147483648 ≤ p2 ∧ p2 ≤ 2147483647) : e_Ok 20 elay ecode eI d 443 (0, [(0, (1, 275)), (1, (0, p1)), (2, (0, p2))], [], w) (fun r w' => ∃ z : Int, r = [(0, z)] ∧ mRel w' ∧ sm3 w w') :=
  (c_443 hd h.1 h.2.1 g1 g2).imp (fun r w' q => by obtain ⟨z, hr, rfl⟩ := q; exact ⟨z, hr, h.same⟩)
theorem m_438 {d : Nat} (hd : 23 ≤ d) {w : eW} (h : mRel w) {p1 p2 : Int} (g1 : -2147483648 ≤ p1 ∧ p1 ≤ 2147483647) (g2 : -2147483648 ≤ p2 ∧ p2 ≤ 2147483647) : e_Ok 20 elay ecode eI d 438 (0, [(0, (1, 275)), (1, (0, p1)), (2, (0, p2))], [], w) (fun r w' => ∃ z : Int, r = [(0, z)] ∧ mRel w' ∧ sm3 w w') :=
  (c_438 hd h.1 h.2.1 g1 g2).imp (fun r w' q => by obtain ⟨z, hr, rfl⟩ := q; exact ⟨z, hr, h.same⟩)
theorem m_441 {d : Nat} (hd : 23 ≤ d) {w : eW} (h : mRel w) {p1 p2 : Int} (g1 : -2147483648 ≤ p1 ∧ p1 ≤ 2147483647) (g2 : -2147483648 ≤ p2 ∧ p2 ≤ 2147483647) : e_Ok 20 elay ecode eI d 441 (0, [(0, (1, 275)), (1, (0, p1)), (2, (0, p2))], [], w) (fun r w' => ∃ z : Int, r = [(0, z)] ∧ mRel w' ∧ sm3 w w') :=
  (c_441 hd h.1 h.2.1 g1 g2).imp (fun r w' q => by obtain ⟨z, hr, rfl⟩ := q; exact ⟨z, hr, h.same⟩)
theorem m_449 {d : Nat} (hd : 23 ≤ d) {w : eW} (h : mRel w) {p1 p2 : Int} (g1 : -2147483648 ≤ p1 ∧ p1 ≤ 2147483647) (g2 : -2147483648 ≤ p2 ∧ p2 ≤ 2147483647) : e_Ok 20 elay ecode eI d 449 (0, [(0, (1, 275)), (1, (0, p1)), (2, (0, p2))], [], w) (fun r w' => ∃ z : Int, r = [(0, z)] ∧ mRel w' ∧ sm3 w w') :=
  (c_449 hd h.1 h.2.1 g1 g2).imp (fun r w' q => by obtain ⟨z, hr, rfl⟩ := q; exact ⟨z, hr, h.same⟩)
theorem m_451 {d : Nat} (hd : 23 ≤ d) {w : eW} (h : mRel w) {p1 : Int} (g1 : -2147483648 ≤ p1 ∧ p1 ≤ 2147483647) : e_Ok 20 elay ecode eI d 451 (0, [(0, (1, 275)), (1, (0, p1))], [], w) (fun r w' => ∃ z : Int, r = [(0, z)] ∧ mRel w' ∧ sm3 w w') :=
  (c_451 hd h.1 h.2.1 g1).imp (fun r w' q => by obtain ⟨z, hr, rfl⟩ := q; exact ⟨z, hr, h.same⟩)
theorem m_442 {d : Nat} (hd : 23 ≤ d) {w : eW} (h : mRel w) {p1 p2 : Int} (g1 : -2147483648 ≤ p1 ∧ p1 ≤ 2147483647) (g2 : -2147483648 ≤ p2 ∧ p2 ≤ 2147483647) : e_Ok 20 elay ecode eI d 442 (0, [(0, (1, 275)), (1, (0, p1)), (2, (0, p2))], [], w) (fun r w' => ∃ z : Int, r = [(0, z)] ∧ mRel w' ∧ sm3 w w') :=
  (c_442 hd h.1 h.2.1 g1 g2).imp (fun r w' q => by obtain ⟨z, hr, rfl⟩ := q; exact ⟨z, hr, h.same⟩)
theorem m_447 {d : Nat} (hd : 23 ≤ d) {w : eW} (h : mRel w) {p1 : Int} (g1 : -2147483648 ≤ p1 ∧ p1 ≤ 2147483647) : e_Ok 20 elay ecode eI d 447 (0, [(0, (1, 275)), (1, (0, p1))], [], w) (fun r w' => ∃ z : Int, r = [(0, z)] ∧ mRel w' ∧ sm3 w w') :=
  (c_447 hd h.1 h.2.1 g1).imp (fun r w' q => by obtain ⟨z, hr, rfl⟩ := q; exact ⟨z, hr, h.same⟩)
theorem m_358 {d : Nat} (hd : 23 ≤ d) {w : eW} (h : mRel w) {p1 : Int} (g1 : -2147483648 ≤ p1 ∧ p1 ≤ 2147483647) : e_Ok 20 elay ecode eI d 358 (0, [(0, (1, 275)), (1, (0, p1))], [], w) (fun r w' => ∃ z : Int, r = [(0, z)] ∧ mRel w' ∧ sm3 w w') :=
  (c_358 hd h.1 h.2.1 g1).imp (fun r w' q => by obtain ⟨z, hr, rfl⟩ := q; exact ⟨z, hr, h.same⟩)
theorem m_450 {d : Nat} (hd : 23 ≤ d) {w : eW} (h : mRel w) {p1 : Int} (g1 : -2147483648 ≤ p1 ∧ p1 ≤ 2147483647) : e_Ok 20 elay ecode eI d 450 (0, [(0, (1, 275)), (1, (0, p1))], [], w) (fun r w' => ∃ z : Int, r = [(0, z)] ∧ mRel w' ∧ sm3 w w') :=
  (c_450 hd h.1 h.2.1 g1).imp (fun r w' q => by obtain ⟨z, hr, rfl⟩ := q; exact ⟨z, hr, h.same⟩)
theorem m_444 {d : Nat} (hd : 23 ≤ d) {w : eW} (h : mRel w) {p1 p2 : Int} (g1 : -2147483648 ≤ p1 ∧ p1 ≤ 2147483647) (g2 : -2147483648 ≤ p2 ∧ p2 ≤ 2147483647) : e_Ok 20 elay ecode eI d 444 (0, [(0, (1, 275)), (1, (0, p1)), (2, (0, p2))], [], w) (fun r w' => ∃ z : Int, r = [(0, z)] ∧ mRel w' ∧ sm3 w w') :=
  (c_444 hd h.1 h.2.1 g1 g2 h.ac).imp (fun r w' q => by obtain ⟨z, hr, q⟩ := q; exact ⟨z, hr, h.scr q (fun c k y => by unfold mQ at y; unfold mS; omega)⟩)
theorem m_440 {d : Nat} (hd : 24 ≤ d) {w : eW} (h : mRel w) {p1 p2 p3 : Int} (g1 : -2147483648 ≤ p1 ∧ p1 ≤ 2147483647) (g2 : -2147483648 ≤ p2 ∧ p2 ≤ 2147483647) (g3 : -2147483648 ≤ p3 ∧ p3 ≤ 2147483647) : e_Ok 20 elay ecode eI d 440 (0, [(0, (1, 275)), (1, (0, p1)), (2, (0, p2)), (3, (0, p3))], [], w) (fun r w' => ∃ z : Int, r = [(0, z)] ∧ mRel w' ∧ sm3 w w') :=
  (c_440 hd h.1 h.2.1 g1 g2 g3).imp (fun r w' q => by obtain ⟨z, hr, q⟩ := q; exact ⟨z, hr, h.scr q (fun c k y => by unfold mP at y; unfold mS; omega)⟩)
theorem m_318 {d : Nat} (hd : 27 ≤ d) {w : eW} (h : mRel w) {p1 p2 : Int} (g1 : -2147483648 ≤ p1 ∧ p1 ≤ 2147483647) (g2 : -2147483648 ≤ p2 ∧ p2 ≤ 2147483647) : e_Ok 20 elay ecode eI d 318 (0, [(0, (1, 275)), (1, (0, p1)), (2, (0, p2))], [], w) (fun r w' => ∃ z : Int, r = [(0, z)] ∧ mRel w' ∧ sm3 w w') :=
  (c_318 hd h.1 h.2.1 g1 g2).imp (fun r w' q => by obtain ⟨z, hr, q⟩ := q; exact ⟨z, hr, h.scr q (fun c k y => by unfold mPL at y; unfold mS; omega)⟩)
theorem m_446 {d : Nat} (hd : 27 ≤ d) {w : eW} (h : mRel w) {p1 p2 : Int} (g1 : -2147483648 ≤ p1 ∧ p1 ≤ 2147483647) (g2 : -2147483648 ≤ p2 ∧ p2 ≤ 2147483647) : e_Ok 20 elay ecode eI d 446 (0, [(0, (1, 275)), (1, (0, p1)), (2, (0, p2))], [], w) (fun r w' => ∃ z : Int, r = [(0, z)] ∧ mRel w' ∧ sm3 w w') :=
  (c_446 hd h.1 h.2.1 g1 g2).imp (fun r w' q => by obtain ⟨z, hr, q⟩ := q; exact ⟨z, hr, h.scr q (fun c k y => by unfold mP at y; unfold mS; omega)⟩)
theorem tp_sc (c k : Int) (h : mTape c k) : scN c k := by
  rcases h with ⟨rfl, rfl⟩ | rfl
  · exact ⟨⟨by decide, by unfold cfN; omega⟩, rfl, by omega⟩
  · exact ⟨⟨by decide, by unfold cfN; omega⟩, rfl, by omega⟩
theorem m_274 {d : Nat} (hd : 21 ≤ d) {w : eW} (h : mRel w) {a b c e f : Int} : e_Ok 20 elay ecode eI d 274 (0, [(0, (1, 275)), (1, (0, a)), (2, (0, b)), (3, (0, c)), (4, (0, e)), (5, (0, f))], [], w) (fun r w' => ∃ z : Int, r = [(0, z)] ∧ mRel w' ∧ w' 275 3 = w 275 3 ∧ w' 275 10 = w 275 10 ∧ ((w 275 9 ≤ 3980 ∧ z = w 275 9 + 20 ∧ w' 275 9 = w 275 9 + 20) ∨ (3980 < w 275 9 ∧ z = -3 ∧ w' 275 9 = w 275 9))) :=
  (c_274 hd h.1 h.2.1).imp (fun r w' q => by
    obtain ⟨z, hr, q1, q2, q3, q4⟩ := q
    obtain ⟨r1, r2, r3⟩ := h.gen q1 tp_sc q2 q3
    exact ⟨z, hr, r1, r2, r3, q4⟩)
theorem m_276 {d : Nat} (hd : 21 ≤ d) {w : eW} (h : mRel w) {a : Int} : e_Ok 20 elay ecode eI d 276 (0, [(0, (1, 275)), (1, (0, a))], [], w) (fun r w' => ∃ z : Int, r = [(0, z)] ∧ mRel w' ∧ w' 275 3 = w 275 3 ∧ w' 275 10 = w 275 10 ∧ ((0 ≤ a ∧ a ≤ w 275 9 ∧ z = w 275 9 - a ∧ w' 275 9 = w 275 9 - a) ∨ ((a < 0 ∨ w 275 9 < a) ∧ z = -1 ∧ w' 275 9 = w 275 9))) :=
  (c_276 hd h.1 h.2.1).imp (fun r w' q => by
    obtain ⟨z, hr, q1, q2, q3, q4⟩ := q
    obtain ⟨r1, r2, r3⟩ := h.gen q1 tp_sc q2 q3
    exact ⟨z, hr, r1, r2, r3, q4⟩)
theorem m_277 {d : Nat} (hd : 23 ≤ d) {w : eW} (h : mRel w) : e_Ok 20 elay ecode eI d 277 (0, [(0, (1, 275))], [], w) (fun r w' => ∃ z : Int, r = [(0, z)] ∧ mRel w' ∧ w' 275 3 = 0 ∧ w' 275 10 = 0 ∧ w' 275 9 = w 275 9) :=
  (c_277_h hd h.1 h.2.1).imp (fun r w' q => by
    obtain ⟨z, hr, q1, q2, q3, q4⟩ := q
    exact ⟨z, hr, ⟨q3, q1, ⟨q2.1.trans h.2.2.1.1, fun _ => q4.1.2.2.2.2.2.2.2⟩, Or.inl ⟨q4.1.1, G0, newOk.bInvP q3 q4⟩⟩, q4.1.1, q4.1.2.1, q2.2⟩)
/-- building calls that are not of the form of 'mF' -/
theorem mRel.bld2 {S : Int → Int → Prop} {w w' : eW} (h : mRel w) (ho : w 275 3 = 0) (hF : e_fr S w w') (hT : e_Has mTy w') (hS : ∀ c k, S c k → hTy c k = (1, 0) ∧ ¬ (c = 275 ∧ (k = 3 ∨ k = 5 ∨ k = 6 ∨ k = 9 ∨ k = 10))) (hI : ∀ G, bInv w G → bInv w' G) : mRel w' ∧ sm3 w w' := by
  obtain ⟨h1, h2, h3, h4⟩ := h
  have f : ∀ k, k = 3 ∨ k = 5 ∨ k = 6 ∨ k = 9 ∨ k = 10 → w' 275 k = w 275 k := fun k q => hF 275 k (fun y => (hS _ _ y).2 ⟨rfl, q⟩)
  refine ⟨⟨hT, h2.fr (fun c k y => (hS c k y).1) hF, ⟨(f 6 (by omega)).trans h3.1, fun _ => (f 5 (by omega)).trans (h3.2 ho)⟩, ?_⟩, f 3 (by omega), f 9 (by omega), f 10 (by omega)⟩
  rcases h4 with ⟨-, G, g⟩ | ⟨g, -⟩
  · exact Or.inl ⟨(f 3 (by omega)).trans ho, G, hI G g.1, g.2⟩
  · omega
theorem m_279 {d : Nat} (hd : 23 ≤ d) {w : eW} (h : mRel w) {p1 p2 p3 p4 p5 : Int} (g1 : -2147483648 ≤ p1 ∧ p1 ≤ 2147483647) (g2 : -2147483648 ≤ p2 ∧ p2 ≤ 2147483647) (g3 : -2147483648 ≤ p3 ∧ p3 ≤ 2147483647) (g4 : -2147483648 ≤ p4 ∧ p4 ≤ 2147483647) (g5 : -2147483648 ≤ p5 ∧ p5 ≤ 2147483647) : e_Ok 20 elay ecode eI d 279 (0, [(0, (1, 275)), (1, (0, p1)), (2, (0, p2)), (3, (0, p3)), (4, (0, p4)), (5, (0, p5))], [], w) (fun r w' => ∃ z : Int, r = [(0, z)] ∧ mRel w' ∧ sm3 w w') :=
  (c_279 hd h.1 g1 g2 g3 g4 g5).imp (fun r w' q => by
    obtain ⟨z, hr, hT, q⟩ := q
    rcases q with rfl | ⟨q1, q2, q3, q4, -, -, q7, q8⟩
    · exact ⟨z, hr, h.same⟩
    · exact ⟨z, hr, h.bld2 q2 q3 hT (fun c k y => ⟨hTy_none (by unfold mJo at y; omega), by unfold mJo at y; omega⟩) (fun G g => g.joint ⟨q1.1, q1.2.1⟩ q3 hT q4 q7 q8)⟩)
theorem m_295 {d : Nat} (hd : 22 ≤ d) {w : eW} (h : mRel w) {p1 p2 p3 : Int} (g1 : -2147483648 ≤ p1 ∧ p1 ≤ 2147483647) (g2 : -2147483648 ≤ p2 ∧ p2 ≤ 2147483647) (g3 : 0 ≤ p3 ∧ p3 ≤ 1) : e_Ok 20 elay ecode eI d 295 (0, [(0, (1, 275)), (1, (0, p1)), (2, (0, p2)), (3, (0, p3))], [], w) (fun r w' => ∃ z : Int, r = [(0, z)] ∧ mRel w' ∧ sm3 w w') :=
  (c_295 hd h.1 h.ac g1 g2 g3).imp (fun r w' q => by
    obtain ⟨z, hr, hT, q, hA⟩ := q
    rcases q with rfl | ⟨q1, q2⟩
    · exact ⟨z, hr, h.same⟩
    · exact ⟨z, hr, h.bld2 q1 q2 hT (fun c k y => by
        unfold mF at y
        rcases y with ⟨rfl, rfl⟩ | y
        · exact ⟨rfl, by omega⟩
        · exact ⟨hTy_none (by omega), by omega⟩) (fun G g => g.wire q2 hT hA)⟩)
theorem pr_hn (c k : Int) (h : mPr c k) : hTy c k = (1, 0) ∧ ¬ (c = 275 ∧ (k = 3 ∨ k = 5 ∨ k = 6 ∨ k = 9 ∨ k = 10)) := by
  rcases h with rfl | ⟨rfl, rfl⟩ | ⟨rfl, -⟩
  · exact ⟨rfl, by omega⟩
  · exact ⟨rfl, by omega⟩
  · exact ⟨rfl, by omega⟩
theorem m_289 {d : Nat} (hd : 24 ≤ d) {w : eW} (h : mRel w) {p1 p2 p3 : Int} (g1 : -2147483648 ≤ p1 ∧ p1 ≤ 2147483647) (g2 : -2147483648 ≤ p2 ∧ p2 ≤ 2147483647) (g3 : -2147483648 ≤ p3 ∧ p3 ≤ 2147483647) : e_Ok 20 elay ecode eI d 289 (0, [(0, (1, 275)), (1, (0, p1)), (2, (0, p2)), (3, (0, p3))], [], w) (fun r w' => ∃ z : Int, r = [(0, z)] ∧ mRel w' ∧ sm3 w w') :=
  (c_289 hd h.1 g1 g2 g3 h.or).imp (fun r w' q => by
    obtain ⟨z, hr, q⟩ := q
    rcases q with rfl | ⟨q1, q2, q3, q4, q5⟩
    · exact ⟨z, hr, h.same⟩
    · exact ⟨z, hr, h.bld2 q1 q2 q3 pr_hn (fun G g => g.part q2 q3 q5)⟩)
theorem m_290 {d : Nat} (hd : 24 ≤ d) {w : eW} (h : mRel w) {p1 p2 p3 : Int} (g1 : -2147483648 ≤ p1 ∧ p1 ≤ 2147483647) (g2 : -2147483648 ≤ p2 ∧ p2 ≤ 2147483647) (g3 : -2147483648 ≤ p3 ∧ p3 ≤ 2147483647) : e_Ok 20 elay ecode eI d 290 (0, [(0, (1, 275)), (1, (0, p1)), (2, (0, p2)), (3, (0, p3))], [], w) (fun r w' => ∃ z : Int, r = [(0, z)] ∧ mRel w' ∧ sm3 w w') :=
  (c_290 hd h.1 g1 g2 g3 h.or).imp (fun r w' q => by
    obtain ⟨z, hr, q⟩ := q
    rcases q with rfl | ⟨q1, q2, q3, q4, q5⟩
    · exact ⟨z, hr, h.same⟩
    · exact ⟨z, hr, h.bld2 q1 q2 q3 pr_hn (fun G g => g.part q2 q3 q5)⟩)
end
