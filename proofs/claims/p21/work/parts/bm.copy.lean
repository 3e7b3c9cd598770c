noncomputable section
/-! the program is copied to its arm -/
def cp3 (X v : eW) (a y : Int) : Prop := (∀ c k, ¬ ((328 ≤ c ∧ c ≤ 330) ∧ 10000 * a ≤ k ∧ k < 10000 * a + 10000) → v c k = X c k) ∧ ∀ c k, 328 ≤ c → c ≤ 330 → 0 ≤ k → k < y → v c (10000 * a + k) = X c (k + 40000)
theorem cp3.zero (X : eW) (a : Int) : cp3 X X a 0 := ⟨fun _ _ _ => rfl, fun c k _ _ h1 h2 => by omega⟩
theorem cp3.next {X v v1 v2 v3 : eW} {a y : Int} (h : cp3 X v a y) (ha : 0 ≤ a ∧ a ≤ 3) (hy : 0 ≤ y ∧ y < 10000) (h1 : e_up v 328 (10000 * a + y) (v 328 (y + 40000)) = v1) (h2 : e_up v1 329 (10000 * a + y) (v 329 (y + 40000)) = v2) (h3 : e_up v2 330 (10000 * a + y) (v 330 (y + 40000)) = v3) : cp3 X v3 a (y + 1) := by
  have o : ∀ c k, ¬ ((328 ≤ c ∧ c ≤ 330) ∧ k = 10000 * a + y) → v3 c k = v c k := fun c k g => by
    rw [← h3, e_up_ne _ _ (by omega), ← h2, e_up_ne _ _ (by omega), ← h1]
    exact e_up_ne _ _ (by omega)
  have s8 : v3 328 (10000 * a + y) = v 328 (y + 40000) := by
    rw [← h3, e_up_ne _ _ (Or.inl (by decide)), ← h2, e_up_ne _ _ (Or.inl (by decide)), ← h1]
    exact e_up_eq _ _ _ _
  have s9 : v3 329 (10000 * a + y) = v 329 (y + 40000) := by
    rw [← h3, e_up_ne _ _ (Or.inl (by decide)), ← h2]
    exact e_up_eq _ _ _ _
  have s0 : v3 330 (10000 * a + y) = v 330 (y + 40000) := by
    rw [← h3]
    exact e_up_eq _ _ _ _
  refine ⟨fun c k g => (o c k (by omega)).trans (h.1 c k g), fun c k c1 c2 k1 k2 => ?_⟩
  by_cases e : k = y
  · subst e
    have hs : v c (k + 40000) = X c (k + 40000) := h.1 c _ (by omega)
    obtain rfl | rfl | rfl : c = 328 ∨ c = 329 ∨ c = 330 := by omega
    · exact s8.trans hs
    · exact s9.trans hs
    · exact s0.trans hs
  · rw [o c _ (by omega)]
    exact h.2 c k c1 c2 k1 (by omega)
def cp6 (X v : eW) (a y : Int) : Prop := (∀ c k, ¬ ((331 ≤ c ∧ c ≤ 336) ∧ 900 * a ≤ k ∧ k < 900 * a + 900) → v c k = X c k) ∧ ∀ c k, 331 ≤ c → c ≤ 336 → 0 ≤ k → k < y → v c (900 * a + k) = X c (k + 3600)
theorem cp6.zero (X : eW) (a : Int) : cp6 X X a 0 := ⟨fun _ _ _ => rfl, fun c k _ _ h1 h2 => by omega⟩
theorem cp6.next {X v v1 v2 v3 v4 v5 v6 : eW} {a y : Int} (h : cp6 X v a y) (ha : 0 ≤ a ∧ a ≤ 3) (hy : 0 ≤ y ∧ y < 900) (h1 : e_up v 331 (900 * a + y) (v 331 (y + 3600)) = v1) (h2 : e_up v1 332 (900 * a + y) (v 332 (y + 3600)) = v2) (h3 : e_up v2 333 (900 * a + y) (v 333 (y + 3600)) = v3) (h4 : e_up v3 334 (900 * a + y) (v 334 (y + 3600)) = v4) (h5 : e_up v4 335 (900 * a + y) (v 335 (y + 3600)) = v5) (h6 : e_up v5 336 (900 * a + y) (v 336 (y + 3600)) = v6) : cp6 X v6 a (y + 1) := by
  have o1 : ∀ c k, ¬ (c = 331 ∧ k = 900 * a + y) → v1 c k = v c k := fun c k g => by rw [← h1]; exact e_up_ne _ _ (by omega)
  have o2 : ∀ c k, ¬ (c = 332 ∧ k = 900 * a + y) → v2 c k = v1 c k := fun c k g => by rw [← h2]; exact e_up_ne _ _ (by omega)
  have o3 : ∀ c k, ¬ (c = 333 ∧ k = 900 * a + y) → v3 c k = v2 c k := fun c k g => by rw [← h3]; exact e_up_ne _ _ (by omega)
  have o4 : ∀ c k, ¬ (c = 334 ∧ k = 900 * a + y) → v4 c k = v3 c k := fun c k g => by rw [← h4]; exact e_up_ne _ _ (by omega)
  have o5 : ∀ c k, ¬ (c = 335 ∧ k = 900 * a + y) → v5 c k = v4 c k := fun c k g => by rw [← h5]; exact e_up_ne _ _ (by omega)
  have o6 : ∀ c k, ¬ (c = 336 ∧ k = 900 * a + y) → v6 c k = v5 c k := fun c k g => by rw [← h6]; exact e_up_ne _ _ (by omega)
  have s1 : v1 331 (900 * a + y) = v 331 (y + 3600) := by rw [← h1]; exact e_up_eq _ _ _ _
  have s2 : v2 332 (900 * a + y) = v 332 (y + 3600) := by rw [← h2]; exact e_up_eq _ _ _ _
  have s3 : v3 333 (900 * a + y) = v 333 (y + 3600) := by rw [← h3]; exact e_up_eq _ _ _ _
  have s4 : v4 334 (900 * a + y) = v 334 (y + 3600) := by rw [← h4]; exact e_up_eq _ _ _ _
  have s5 : v5 335 (900 * a + y) = v 335 (y + 3600) := by rw [← h5]; exact e_up_eq _ _ _ _
  have s6 : v6 336 (900 * a + y) = v 336 (y + 3600) := by rw [← h6]; exact e_up_eq _ _ _ _
  have o : ∀ c k, ¬ ((331 ≤ c ∧ c ≤ 336) ∧ k = 900 * a + y) → v6 c k = v c k := fun c k g => by rw [o6 c k (by omega), o5 c k (by omega), o4 c k (by omega), o3 c k (by omega), o2 c k (by omega), o1 c k (by omega)]
  refine ⟨fun c k g => (o c k (by omega)).trans (h.1 c k g), fun c k c1 c2 k1 k2 => ?_⟩
  by_cases e : k = y
  · subst e
    have hs : v c (k + 3600) = X c (k + 3600) := h.1 c _ (by omega)
    obtain rfl | rfl | rfl | rfl | rfl | rfl : c = 331 ∨ c = 332 ∨ c = 333 ∨ c = 334 ∨ c = 335 ∨ c = 336 := by omega
    · rw [o6 _ _ (by omega), o5 _ _ (by omega), o4 _ _ (by omega), o3 _ _ (by omega), o2 _ _ (by omega)]; exact s1.trans hs
    · rw [o6 _ _ (by omega), o5 _ _ (by omega), o4 _ _ (by omega), o3 _ _ (by omega)]; exact s2.trans hs
    · rw [o6 _ _ (by omega), o5 _ _ (by omega), o4 _ _ (by omega)]; exact s3.trans hs
    · rw [o6 _ _ (by omega), o5 _ _ (by omega)]; exact s4.trans hs
    · rw [o6 _ _ (by omega)]; exact s5.trans hs
    · exact s6.trans hs
  · rw [o c _ (by omega)]
    exact h.2 c k c1 c2 k1 (by omega)
def cp2 (X v : eW) (a y : Int) : Prop := (∀ c k, ¬ ((c = 337 ∧ 32 * a ≤ k ∧ k < 32 * a + 32) ∨ (c = 276 ∧ 32 * a + 20932 ≤ k ∧ k < 32 * a + 20964)) → v c k = X c k) ∧ ∀ k, 0 ≤ k → k < y → v 337 (32 * a + k) = X 337 (k + 128)
theorem cp2.zero (X : eW) (a : Int) : cp2 X X a 0 := ⟨fun _ _ _ => rfl, fun k h1 h2 => by omega⟩
theorem cp2.next {X v v1 v2 : eW} {a y : Int} (h : cp2 X v a y) (ha : 0 ≤ a ∧ a ≤ 3) (hy : 0 ≤ y ∧ y < 32) (h1 : e_up v 337 (32 * a + y) (v 337 (y + 128)) = v1) (h2 : e_up v1 276 (32 * a + y + 20932) 0 = v2) : cp2 X v2 a (y + 1) := by
  have o1 : ∀ c k, ¬ (c = 337 ∧ k = 32 * a + y) → v1 c k = v c k := fun c k g => by rw [← h1]; exact e_up_ne _ _ (by omega)
  have o2 : ∀ c k, ¬ (c = 276 ∧ k = 32 * a + y + 20932) → v2 c k = v1 c k := fun c k g => by rw [← h2]; exact e_up_ne _ _ (by omega)
  have s1 : v1 337 (32 * a + y) = v 337 (y + 128) := by rw [← h1]; exact e_up_eq _ _ _ _
  refine ⟨fun c k g => ?_, fun k k1 k2 => ?_⟩
  · rw [o2 c k (by omega), o1 c k (by omega)]
    exact h.1 c k g
  · rw [o2 _ _ (by omega)]
    by_cases e : k = y
    · subst e
      rw [s1]
      exact h.1 337 _ (by omega)
    · rw [o1 _ _ (by omega)]
      exact h.2 k k1 (by omega)
/-- what reading a program changes before it is copied -/
def mPs (c k : Int) : Prop := ((328 ≤ c ∧ c ≤ 330) ∧ 40000 ≤ k) ∨ ((331 ≤ c ∧ c ≤ 336) ∧ 3600 ≤ k) ∨ (c = 337 ∧ 128 ≤ k) ∨ ((c = 338 ∨ c = 339) ∧ k = 4) ∨ (341 ≤ c ∧ c ≤ 344) ∨ (c = 275 ∧ (k = 9 ∨ (78 ≤ k ∧ k ≤ 89) ∨ k = 94 ∨ k = 95))
/-- .. and all in all -/
def mPg (a c k : Int) : Prop := mPs c k ∨ ((328 ≤ c ∧ c ≤ 330) ∧ 10000 * a ≤ k ∧ k < 10000 * a + 10000) ∨ ((331 ≤ c ∧ c ≤ 336) ∧ 900 * a ≤ k ∧ k < 900 * a + 900) ∨ (c = 337 ∧ 32 * a ≤ k ∧ k < 32 * a + 32) ∨ (c = 276 ∧ 32 * a + 20932 ≤ k ∧ k < 32 * a + 20964) ∨ ((c = 338 ∨ c = 339 ∨ c = 340) ∧ k = a)
theorem mPs.ps {w w' : eW} {a : Int} (ha : 0 ≤ a ∧ a ≤ 3) (h : e_fr mPs w w') : prS w w' a :=
  ⟨fun c p c1 c2 p1 p2 => h c _ (by unfold mPs; omega), fun c t c1 c2 t1 t2 => h c _ (by unfold mPs; omega), fun q q1 q2 => h 337 _ (by unfold mPs; omega), h 338 _ (by unfold mPs; omega)⟩
theorem mPg.ps {w w' : eW} {a b : Int} (ha : 0 ≤ a ∧ a ≤ 3) (hb : 0 ≤ b ∧ b ≤ 3) (hn : a ≠ b) (h : e_fr (mPg a) w w') : prS w w' b :=
  ⟨fun c p c1 c2 p1 p2 => h c _ (by unfold mPg mPs; omega), fun c t c1 c2 t1 t2 => h c _ (by unfold mPg mPs; omega), fun q q1 q2 => h 337 _ (by unfold mPg mPs; omega), h 338 _ (by unfold mPg mPs; omega)⟩
/-- what the arm's program is then -/
theorem prog_ok {w v X v1 v2 v3 w1 w2 w3 : eW} {N a n mm nt nw R : Int} (hG : GX w N n mm nt nw (fun _ => False) (-1) (fun _ => False) 0) (hR : RS w v n mm mm) (hF : e_fr mRsv w v) (hX : ∀ c k, ¬ (c = 275 ∧ k = 9) → X c k = v c k) (ha : 0 ≤ a ∧ a ≤ 3) (hn : 0 ≤ n ∧ n ≤ 9900) (hnt : nt ≤ 900) (hnw : nw ≤ 900) (c3 : cp3 X v1 a n) (c6 : cp6 v1 v2 a 900) (c2 : cp2 v2 v3 a 32) (h1 : e_up v3 338 a R = w1) (hRv : R = v3 338 4) (h2 : ∃ z, e_up w1 339 a z = w2) (h3 : e_up w2 340 a 1 = w3) :
    ∃ (n' nt' nw' : Int) (dl sg pi en : Int → Int) (an br : Int → Int → Prop), cOk w3 a n' nt' nw' dl sg pi en an br ∧ ∀ r q, br r q → 0 ≤ q ∧ q < nw' := by
  obtain ⟨z, h2⟩ := h2
  have o3 : ∀ c k, c ≠ 338 → c ≠ 339 → c ≠ 340 → w3 c k = v3 c k := fun c k g1 g2 g3 => by
    rw [← h3, e_up_ne _ _ (Or.inl g3), ← h2, e_up_ne _ _ (Or.inl g2), ← h1]
    exact e_up_ne _ _ (Or.inl g1)
  have e38 : w3 338 a = v 338 4 := by
    rw [← h3, e_up_ne _ _ (Or.inl (by decide)), ← h2, e_up_ne _ _ (Or.inl (by decide)), ← h1, e_up_eq, hRv, c2.1 338 4 (by omega), c6.1 338 4 (by omega), c3.1 338 4 (by omega)]
    exact hX 338 4 (by omega)
  have f8 : ∀ c p, 328 ≤ c → c ≤ 330 → 0 ≤ p → p < n → w3 c (10000 * a + p) = v c (p + 40000) := fun c p c1 c2' p1 p2 => by
    rw [o3 c _ (by omega) (by omega) (by omega), c2.1 c _ (by omega), c6.1 c _ (by omega), c3.2 c p c1 c2' p1 p2]
    exact hX c _ (by omega)
  have ft : ∀ c t, 331 ≤ c → c ≤ 336 → 0 ≤ t → t < 900 → w3 c (900 * a + t) = w c (t + 3600) := fun c t c1 c2' t1 t2 => by
    rw [o3 c _ (by omega) (by omega) (by omega), c2.1 c _ (by omega), c6.2 c t c1 c2' t1 t2, c3.1 c _ (by omega), hX c _ (by omega)]
    exact hF c _ (by unfold mRsv; omega)
  have f7 : ∀ q, 0 ≤ q → q < 32 → w3 337 (32 * a + q) = v 337 (q + 128) := fun q q1 q2 => by
    rw [o3 337 _ (by omega) (by omega) (by omega), c2.2 q q1 q2, c6.1 337 _ (by omega), c3.1 337 _ (by omega)]
    exact hX 337 _ (by omega)
  have hr := hR.2.1
  rcases hG with ⟨g1, g2, g3, g4⟩ | hG
  · -- no routine
    refine ⟨0, 0, 0, _, _, _, _, _, _, cOk.none ?_, fun r q g => g.elim⟩
    have hc : cntK w 1 mm = 0 := by
      have hmm := g4.1.1.2.2.2.2.2.1.2.2.2.2
      have key : ∀ j : Nat, (j : Int) ≤ mm → cntK w 1 (j : Int) = 0 := fun j => by
        induction j with
        | zero => intro _; exact cntK_zero w 1
        | succ j ih =>
          intro hj
          have e0 := g4.2 (j : Int) (by omega) (by omega)
          rw [show ((j + 1 : Nat) : Int) = (j : Int) + 1 by omega, cntK_no (by omega) (by omega)]
          exact ih (by omega)
      have := key mm.toNat (by omega)
      rw [show ((mm.toNat : Nat) : Int) = mm by omega] at this
      exact this
    omega
  · have hT : GT w N n mm nt nw := hG
    have hc : cpy w w3 a n := ⟨fun p p1 p2 => ⟨by rw [f8 328 p (by decide) (by decide) p1 p2]; exact hF 328 _ (by unfold mRsv; omega), by rw [f8 330 p (by decide) (by decide) p1 p2]; exact hF 330 _ (by unfold mRsv; omega)⟩, ft⟩
    have hA : cpyA w w3 a n := fun p p1 p2 => by
      have q := hR.all hG.1.1.2 p1 p2
      rw [f8 329 p (by decide) (by decide) p1 p2, e38]
      exact ⟨q.1, q.2, fun g => hR.2.2.2.2.2 p p1 p2 g⟩
    refine ⟨n, nt, nw, _, _, _, _, _, _, hT.cOk hc hA hR.2.2.1 (by omega) hnt hnw (fun q q1 q2 => ?_), fun r q g => g.1⟩
    rw [e38] at q2
    obtain ⟨m, m1, m2, m3, m4⟩ := hR.2.2.2.2.1 q q1 (by omega)
    rw [f7 q q1 (by omega), m4]
    exact hG.1.2.2.2.2.1 m m1 m2 m3
end
