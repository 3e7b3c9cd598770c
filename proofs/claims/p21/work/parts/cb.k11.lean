noncomputable section
/-! the class: what the doer does, greater steps -/
def kLk (c k : Int) : Prop := c = 83
def kFk (c k : Int) : Prop := (c = 8 ∧ (k = 8 ∨ k = 10 ∨ k = 11)) ∨ c = 84 ∨ c = 83
def kBk (a : Int) (c k : Int) : Prop := (c = 74 ∧ k = 1) ∨ c = 75 ∨ (154 ≤ c ∧ c ≤ 249 ∧ (c - 154) % 6 = 0 ∧ k = 10) ∨ (c = 17 * a + 86 ∧ (k = 13 ∨ k = 18))
def kBa (a : Int) (c k : Int) : Prop := (c = 74 ∧ k = 1) ∨ c = 75 ∨ (154 ≤ c ∧ c ≤ 249 ∧ (c - 154) % 6 = 0 ∧ k = 10) ∨ (c = 17 * a + 86 ∧ (k = 11 ∨ k = 13 ∨ k = 18))
def kSP (c k : Int) : Prop := (c = 8 ∧ (k = 8 ∨ k = 10 ∨ k = 11)) ∨ c = 84 ∨ (11 ≤ c ∧ c ≤ 14) ∨ c = 16
section Kb
variable {w w' : eW} {OP OD CL : Int → Int → Int} {h t0 : Int}
theorem kI.arm (q : kI w OP OD CL h t0) {a : Int} (g1 : 0 ≤ a) (g2 : a ≤ 3) : aR w a := q.2.1 a g1 g2
theorem kI.fk (q : kI w OP OD CL h t0) : fK w := q.2.2.1
theorem kI.pf (q : kI w OP OD CL h t0) : pF w := q.2.2.2.1
theorem kI.lgk (q : kI w OP OD CL h t0) : lgK w := q.2.2.2.2.1
theorem kI.pw (q : kI w OP OD CL h t0) : w 74 3 = 0 → ∀ a, 0 ≤ a → a ≤ 3 → a < w 0 11 → w (17 * a + 86) 11 = 0 := q.2.2.2.2.2.1
theorem kI.co (q : kI w OP OD CL h t0) {a : Int} (g1 : 0 ≤ a) (g2 : a ≤ 3) : kCd w (w (17 * a + 86) 7) (OP a) (OD a) ∧ cD (OP a) (OD a) (CL a) ∧ kCe w (w (17 * a + 86) 7) (OP a) (OD a) := q.2.2.2.2.2.2.1 a g1 g2
theorem kI.gk (q : kI w OP OD CL h t0) : gK w h := q.2.2.2.2.2.2.2.1
theorem kI.ts (q : kI w OP OD CL h t0) {t : Int} (g1 : 0 ≤ t) (g2 : t ≤ 15) : tQ w OP CL h t0 t := q.2.2.2.2.2.2.2.2 t g1 g2
theorem hm_kDs {c k : Int} (g : kDs c k) : kHm c k := by unfold kDs at g; unfold kHm; rcases g with g | g; exact Or.inl ⟨g.1, by omega⟩; exact Or.inr (Or.inl g)
theorem hm_kLk {c k : Int} (g : kLk c k) : kHm c k := by unfold kLk at g; unfold kHm; simp [g]
theorem hm_kFk {c k : Int} (g : kFk c k) : kHm c k := by
  unfold kFk at g
  rcases g with g | g | g
  · exact hm_kDs (Or.inl g)
  · exact hm_kDs (Or.inr g)
  · exact hm_kLk g
theorem ah_kBa {a c k : Int} (g : kBa a c k) : kAh a c k := by
  unfold kBa at g
  unfold kAh
  rcases g with g | g | g | g
  · exact Or.inr (Or.inl g)
  · exact Or.inr (Or.inr (Or.inl g))
  · refine Or.inl ?_
    unfold kHm
    simp only [g.2.2.1, g.2.2.2, g.1, g.2.1]
    simp
  · exact Or.inr (Or.inr (Or.inr (Or.inl ⟨g.1, by omega⟩)))
theorem ph_kPo {c k : Int} (g : kPo c k) : kPh c k := Or.inr g
theorem e_Ok.orne {fd : Nat} {lay : List eY} {code : Nat → Nat → eE} {I : Nat → xM} {d M nx a b p : Nat} {l : eL} {r : List eV} {w : eW} {Q : List eV → eW → Prop} {x y : Int} (hc : code M p = (0, ei_bin (eB (fun x y => x ||| y)) nx, a, b)) (hy : y = 1 ∨ y = 2) (h : ∀ z, (-2147483648 ≤ z ∧ z ≤ 2147483647) → z ≠ 0 → e_Ok fd lay code I d M (nx, l, (0, z) :: r, w) Q) : e_Ok fd lay code I d M (p, l, (0, y) :: (0, x) :: r, w) Q := by
  refine e_Ok.step (t' := (nx, l, (0, (Int32.ofInt x ||| Int32.ofInt y).toInt) :: r, w)) hc rfl (h _ ⟨Int32.le_toInt _, Int32.toInt_le _⟩ (fun e => ?_))
  have e2 : Int32.ofInt x ||| Int32.ofInt y = 0 := Int32.toInt_inj.mp e
  have e3 : (Int32.ofInt y).toBitVec = 0 := by
    have e4 : (Int32.ofInt x).toBitVec ||| (Int32.ofInt y).toBitVec = 0 := congrArg Int32.toBitVec e2
    exact (BitVec.or_eq_zero_iff.mp e4).2
  rcases hy with rfl | rfl
  · exact absurd e3 (by decide)
  · exact absurd e3 (by decide)
end Kb
theorem c_51 {d : Nat} {w : eW} (hT : e_Has kTy w) {l : Int} (g_l : 0 ≤ l ∧ l ≤ 7) {OP OD CL : Int → Int → Int} {h t0 : Int} (q : kI w OP OD CL h t0) : e_Ok 20 elay kcode eI d 51 (0, [(0, (1, 8)), (1, (0, l))], [], w) (fun r w' => r = [] ∧ e_fr kLk w w' ∧ e_Has kTy w') := by
  refine e_Ok.run (t' := (4, [(3, (0, 0)), (2, (0, (-1))), (0, (1, 8)), (1, (0, l))], [], w)) 4 rfl ?_
  have hL1 : ∀ (nn : Nat) (y2 : Int) (y3 : Int), (-1 ≤ y2 ∧ y2 ≤ 15) ∧ (0 ≤ y3 ∧ y3 ≤ 16) ∧ (0 ≤ y2 → w (6 * y2 + 154) 1 = 5) → 16 - y3 < nn → e_Ok 20 elay kcode eI d 51 (4, [(0, (1, 8)), (1, (0, l)), (2, (0, y2)), (3, (0, y3))], [], w) (fun r w' => r = [] ∧ e_fr kLk w w' ∧ e_Has kTy w') := by
    intro nn
    induction nn with
    | zero => intro y2 y3 hj hm; obtain ⟨j3, j4, j5⟩ := hj; exfalso; omega
    | succ nn ih2 =>
      intro y2 y3 hj hm
      obtain ⟨j3, j4, j5⟩ := hj
      refine e_Ok.run (t' := (7, [(0, (1, 8)), (1, (0, l)), (2, (0, y2)), (3, (0, y3))], [(0, 16), (0, y3)], w)) 2 rfl ?_
      refine e_Ok.if2 rfl (fun h6 => ?_) (fun h6 => ?_)
      · replace h6 : (y3 : Int) ≥ 16 := h6
        refine e_Ok.run (t' := (73, [(0, (1, 8)), (1, (0, l)), (2, (0, y2)), (3, (0, y3))], [(1, 8)], w)) 1 rfl ?_
        refine e_Ok.getr (z := 83) rfl (el_o rfl) rfl rfl (Eq.trans (e_Has.eq hT rfl) (by omega)) (by omega) ?_
        refine e_Ok.run (t' := (78, [(0, (1, 8)), (1, (0, l)), (2, (0, y2)), (3, (0, y3))], [(0, y2), (0, l), (1, 83)], w)) 2 rfl ?_
        refine e_Ok.ast rfl (el_o rfl) rfl rfl (by omega) ?_
        generalize hw7 : e_up w 83 l y2 = w7
        have f8 : e_fr kLk w w7 := e_fr.up (e_fr.refl w) hw7 (by unfold kLk; omega)
        have hT9 : e_Has kTy w7 := e_Has.upr hT hw7 rfl (by omega)
        refine e_Ok.rets rfl rfl ?_
        exact ⟨rfl, f8, hT9⟩
      · replace h6 : (y3 : Int) < 16 := by have q : ¬ ((y3 : Int) ≥ 16) := h6; omega
        refine e_Ok.run (t' := (11, [(0, (1, 8)), (1, (0, l)), (2, (0, y2)), (3, (0, y3))], [(1, 8)], w)) 1 rfl ?_
        refine e_Ok.getr (z := 82) rfl (el_o rfl) rfl rfl (Eq.trans (e_Has.eq hT rfl) (by omega)) (by omega) ?_
        refine e_Ok.run (t' := (15, [(0, (1, 8)), (1, (0, l)), (2, (0, y2)), (3, (0, y3))], [(0, y3), (1, 82)], w)) 1 rfl ?_
        refine e_Ok.aald (z := 6 * y3 + 154) rfl (el_o rfl) rfl (by omega) (Eq.trans (e_Has.eq hT (k82 (by omega))) (by omega)) (by omega) ?_
        have h10 := (e_Has.get hT (c := 6 * y3 + 154) (k := 1) (lo := 0) (hi := 7) (kT_1 (t := y3) (by omega) (by omega)) (by decide))
        refine e_Ok.getf (z := w (6 * y3 + 154) 1) rfl (lT0 (t := y3) (by omega) (by omega)) rfl rfl rfl (by omega) ?_
        refine e_Ok.run (t' := (20, [(0, (1, 8)), (1, (0, l)), (2, (0, y2)), (3, (0, y3))], [(0, 5), (0, w (6 * y3 + 154) 1)], w)) 1 rfl ?_
        refine e_Ok.if2 rfl (fun h11 => ?_) (fun h11 => ?_)
        · replace h11 : (w (6 * y3 + 154) 1 : Int) ≠ 5 := h11
          refine e_Ok.inc (z := y3 + 1) rfl rfl (by omega) (by omega) ?_
          show e_Ok 20 elay kcode eI d 51 (69, [(3, (0, y3 + 1)), (0, (1, 8)), (1, (0, l)), (2, (0, y2))], [], w) _
          refine e_Ok.run (t' := (4, [(3, (0, y3 + 1)), (0, (1, 8)), (1, (0, l)), (2, (0, y2))], [], w)) 1 rfl ?_
          refine e_Ok.sub kAlk (e_sub_of rfl ?_) (ih2 y2 (y3 + 1) ⟨by omega, by omega, by omega⟩ (by omega))
          exact ⟨rfl, rfl, rfl, rfl, trivial⟩
        · replace h11 : (w (6 * y3 + 154) 1 : Int) = 5 := by have q : ¬ ((w (6 * y3 + 154) 1 : Int) ≠ 5) := h11; omega
          have hq := (q.ts (t := y3) (by omega) (by omega)).1.2.2 (by omega); unfold kn1 at hq
          refine e_Ok.run (t' := (24, [(0, (1, 8)), (1, (0, l)), (2, (0, y2)), (3, (0, y3))], [(1, 8)], w)) 1 rfl ?_
          refine e_Ok.getr (z := 82) rfl (el_o rfl) rfl rfl (Eq.trans (e_Has.eq hT rfl) (by omega)) (by omega) ?_
          refine e_Ok.run (t' := (28, [(0, (1, 8)), (1, (0, l)), (2, (0, y2)), (3, (0, y3))], [(0, y3), (1, 82)], w)) 1 rfl ?_
          refine e_Ok.aald (z := 6 * y3 + 154) rfl (el_o rfl) rfl (by omega) (Eq.trans (e_Has.eq hT (k82 (by omega))) (by omega)) (by omega) ?_
          refine e_Ok.getf (z := w (6 * y3 + 154) 8) rfl (lT0 (t := y3) (by omega) (by omega)) rfl rfl rfl (by omega) ?_
          refine e_Ok.run (t' := (33, [(0, (1, 8)), (1, (0, l)), (2, (0, y2)), (3, (0, y3))], [(0, l), (0, w (6 * y3 + 154) 8)], w)) 1 rfl ?_
          refine e_Ok.if2 rfl (fun h12 => ?_) (fun h12 => ?_)
          · replace h12 : (w (6 * y3 + 154) 8 : Int) = l := h12
            refine e_Ok.run (t' := (40, [(0, (1, 8)), (1, (0, l)), (2, (0, y2)), (3, (0, y3))], [(0, y2)], w)) 1 rfl ?_
            refine e_Ok.if1 rfl (fun h13 => ?_) (fun h13 => ?_)
            · replace h13 : (y2 : Int) < 0 := h13
              refine e_Ok.run (t' := (66, [(2, (0, y3)), (0, (1, 8)), (1, (0, l)), (3, (0, y3))], [], w)) 2 rfl ?_
              refine e_Ok.inc (z := y3 + 1) rfl rfl (by omega) (by omega) ?_
              show e_Ok 20 elay kcode eI d 51 (69, [(3, (0, y3 + 1)), (2, (0, y3)), (0, (1, 8)), (1, (0, l))], [], w) _
              refine e_Ok.run (t' := (4, [(3, (0, y3 + 1)), (2, (0, y3)), (0, (1, 8)), (1, (0, l))], [], w)) 1 rfl ?_
              refine e_Ok.sub kAlk (e_sub_of rfl ?_) (ih2 y3 (y3 + 1) ⟨by omega, by omega, by omega⟩ (by omega))
              exact ⟨rfl, rfl, rfl, rfl, trivial⟩
            · replace h13 : (y2 : Int) ≥ 0 := by have q : ¬ ((y2 : Int) < 0) := h13; omega
              have hq2 := (q.ts (t := y2) (by omega) (by omega)).1.2.2 (by omega); unfold kn1 at hq2
              refine e_Ok.run (t' := (44, [(0, (1, 8)), (1, (0, l)), (2, (0, y2)), (3, (0, y3))], [(1, 8)], w)) 1 rfl ?_
              refine e_Ok.getr (z := 82) rfl (el_o rfl) rfl rfl (Eq.trans (e_Has.eq hT rfl) (by omega)) (by omega) ?_
              refine e_Ok.run (t' := (48, [(0, (1, 8)), (1, (0, l)), (2, (0, y2)), (3, (0, y3))], [(0, y3), (1, 82)], w)) 1 rfl ?_
              refine e_Ok.aald (z := 6 * y3 + 154) rfl (el_o rfl) rfl (by omega) (Eq.trans (e_Has.eq hT (k82 (by omega))) (by omega)) (by omega) ?_
              refine e_Ok.getf (z := w (6 * y3 + 154) 9) rfl (lT0 (t := y3) (by omega) (by omega)) rfl rfl rfl (by omega) ?_
              refine e_Ok.run (t' := (53, [(0, (1, 8)), (1, (0, l)), (2, (0, y2)), (3, (0, y3))], [(1, 8), (0, w (6 * y3 + 154) 9)], w)) 1 rfl ?_
              refine e_Ok.getr (z := 82) rfl (el_o rfl) rfl rfl (Eq.trans (e_Has.eq hT rfl) (by omega)) (by omega) ?_
              refine e_Ok.run (t' := (57, [(0, (1, 8)), (1, (0, l)), (2, (0, y2)), (3, (0, y3))], [(0, y2), (1, 82), (0, w (6 * y3 + 154) 9)], w)) 1 rfl ?_
              refine e_Ok.aald (z := 6 * y2 + 154) rfl (el_o rfl) rfl (by omega) (Eq.trans (e_Has.eq hT (k82 (by omega))) (by omega)) (by omega) ?_
              refine e_Ok.getf (z := w (6 * y2 + 154) 9) rfl (lT0 (t := y2) (by omega) (by omega)) rfl rfl rfl (by omega) ?_
              refine e_Ok.if2 rfl (fun h14 => ?_) (fun h14 => ?_)
              · replace h14 : (w (6 * y3 + 154) 9 : Int) ≥ w (6 * y2 + 154) 9 := h14
                refine e_Ok.inc (z := y3 + 1) rfl rfl (by omega) (by omega) ?_
                show e_Ok 20 elay kcode eI d 51 (69, [(3, (0, y3 + 1)), (0, (1, 8)), (1, (0, l)), (2, (0, y2))], [], w) _
                refine e_Ok.run (t' := (4, [(3, (0, y3 + 1)), (0, (1, 8)), (1, (0, l)), (2, (0, y2))], [], w)) 1 rfl ?_
                refine e_Ok.sub kAlk (e_sub_of rfl ?_) (ih2 y2 (y3 + 1) ⟨by omega, by omega, by omega⟩ (by omega))
                exact ⟨rfl, rfl, rfl, rfl, trivial⟩
              · replace h14 : (w (6 * y3 + 154) 9 : Int) < w (6 * y2 + 154) 9 := by have q : ¬ ((w (6 * y3 + 154) 9 : Int) ≥ w (6 * y2 + 154) 9) := h14; omega
                refine e_Ok.run (t' := (66, [(2, (0, y3)), (0, (1, 8)), (1, (0, l)), (3, (0, y3))], [], w)) 2 rfl ?_
                refine e_Ok.inc (z := y3 + 1) rfl rfl (by omega) (by omega) ?_
                show e_Ok 20 elay kcode eI d 51 (69, [(3, (0, y3 + 1)), (2, (0, y3)), (0, (1, 8)), (1, (0, l))], [], w) _
                refine e_Ok.run (t' := (4, [(3, (0, y3 + 1)), (2, (0, y3)), (0, (1, 8)), (1, (0, l))], [], w)) 1 rfl ?_
                refine e_Ok.sub kAlk (e_sub_of rfl ?_) (ih2 y3 (y3 + 1) ⟨by omega, by omega, by omega⟩ (by omega))
                exact ⟨rfl, rfl, rfl, rfl, trivial⟩
          · replace h12 : (w (6 * y3 + 154) 8 : Int) ≠ l := by have q : ¬ ((w (6 * y3 + 154) 8 : Int) = l) := h12; omega
            refine e_Ok.run (t' := (66, [(0, (1, 8)), (1, (0, l)), (2, (0, y2)), (3, (0, y3))], [], w)) 1 rfl ?_
            refine e_Ok.inc (z := y3 + 1) rfl rfl (by omega) (by omega) ?_
            show e_Ok 20 elay kcode eI d 51 (69, [(3, (0, y3 + 1)), (0, (1, 8)), (1, (0, l)), (2, (0, y2))], [], w) _
            refine e_Ok.run (t' := (4, [(3, (0, y3 + 1)), (0, (1, 8)), (1, (0, l)), (2, (0, y2))], [], w)) 1 rfl ?_
            refine e_Ok.sub kAlk (e_sub_of rfl ?_) (ih2 y2 (y3 + 1) ⟨by omega, by omega, by omega⟩ (by omega))
            exact ⟨rfl, rfl, rfl, rfl, trivial⟩
  refine e_Ok.sub kAlk (e_sub_of rfl ?_) (hL1 (16 + 1 : Int).toNat (-1) 0 ⟨by omega, by omega, by omega⟩ (by omega))
  exact ⟨rfl, rfl, rfl, rfl, trivial⟩
theorem c_50 {d : Nat} (hd : 21 ≤ d) {w : eW} (hT : e_Has kTy w) {t : Int} (g_t : 0 ≤ t ∧ t ≤ 15) {OP OD CL : Int → Int → Int} {h t0 : Int} (q : kI w OP OD CL h t0) : e_Ok 20 elay kcode eI d 50 (0, [(0, (1, 8)), (1, (1, 6 * t + 154))], [], w) (fun r w' => r = [] ∧ e_fr kLk w w' ∧ e_Has kTy w') := by
  obtain ⟨d, rfl⟩ : ∃ e, d = e + 1 := ⟨d - 1, by omega⟩
  refine e_Ok.run (t' := (2, [(2, (0, 0)), (0, (1, 8)), (1, (1, 6 * t + 154))], [], w)) 2 rfl ?_
  have hL1 : ∀ (nn : Nat) (y2 : Int) (v1 : eW), e_fr kLk w v1 ∧ e_Has kTy v1 ∧ kI v1 OP OD CL h t0 ∧ (0 ≤ y2 ∧ y2 ≤ 8) → 8 - y2 < nn → e_Ok 20 elay kcode eI (d + 1) 50 (2, [(0, (1, 8)), (1, (1, 6 * t + 154)), (2, (0, y2))], [], v1) (fun r w' => r = [] ∧ e_fr kLk w w' ∧ e_Has kTy w') := by
    intro nn
    induction nn with
    | zero => intro y2 v1 hj hm; obtain ⟨j3, j4, j5, j6⟩ := hj; exfalso; omega
    | succ nn ih2 =>
      intro y2 v1 hj hm
      obtain ⟨j3, j4, j5, j6⟩ := hj
      refine e_Ok.run (t' := (5, [(0, (1, 8)), (1, (1, 6 * t + 154)), (2, (0, y2))], [(0, 8), (0, y2)], v1)) 2 rfl ?_
      refine e_Ok.if2 rfl (fun h7 => ?_) (fun h7 => ?_)
      · replace h7 : (y2 : Int) ≥ 8 := h7
        refine e_Ok.rets rfl rfl ?_
        exact ⟨rfl, j3, j4⟩
      · replace h7 : (y2 : Int) < 8 := by have q : ¬ ((y2 : Int) ≥ 8) := h7; omega
        refine e_Ok.run (t' := (9, [(0, (1, 8)), (1, (1, 6 * t + 154)), (2, (0, y2))], [(1, 8)], v1)) 1 rfl ?_
        refine e_Ok.getr (z := 83) rfl (el_o rfl) rfl rfl ((j3 8 5 (by unfold kLk; omega)).trans (Eq.trans (e_Has.eq hT rfl) (by omega))) (by omega) ?_
        refine e_Ok.run (t' := (13, [(0, (1, 8)), (1, (1, 6 * t + 154)), (2, (0, y2))], [(0, y2), (1, 83)], v1)) 1 rfl ?_
        have h8 := (e_Has.get j4 (c := 83) (k := y2) (lo := (-1)) (hi := 15) rfl (by decide))
        refine e_Ok.ald (z := v1 83 y2) rfl (el_o rfl) rfl (by omega) rfl (by omega) ?_
        refine e_Ok.run (t' := (15, [(0, (1, 8)), (1, (1, 6 * t + 154)), (2, (0, y2))], [(1, 6 * t + 154), (0, v1 83 y2)], v1)) 1 rfl ?_
        refine e_Ok.getf (z := t) rfl (lT0 (t := t) (by omega) (by omega)) rfl rfl ((j3 (6 * t + 154) 0 (by unfold kLk; omega)).trans (Eq.trans (e_Has.eq hT (kT_0 (t := t) (by omega) (by omega))) (by omega))) (by omega) ?_
        refine e_Ok.if2 rfl (fun h9 => ?_) (fun h9 => ?_)
        · replace h9 : (v1 83 y2 : Int) ≠ t := h9
          refine e_Ok.inc (z := y2 + 1) rfl rfl (by omega) (by omega) ?_
          show e_Ok 20 elay kcode eI (d + 1) 50 (29, [(2, (0, y2 + 1)), (0, (1, 8)), (1, (1, 6 * t + 154))], [], v1) _
          refine e_Ok.run (t' := (2, [(2, (0, y2 + 1)), (0, (1, 8)), (1, (1, 6 * t + 154))], [], v1)) 1 rfl ?_
          refine e_Ok.sub kAlk (e_sub_of rfl ?_) (ih2 (y2 + 1) v1 ⟨j3, j4, j5, by omega⟩ (by omega))
          exact ⟨rfl, rfl, rfl, trivial⟩
        · replace h9 : (v1 83 y2 : Int) = t := by have q : ¬ ((v1 83 y2 : Int) ≠ t) := h9; omega
          refine e_Ok.run (t' := (23, [(0, (1, 8)), (1, (1, 6 * t + 154)), (2, (0, y2))], [(0, y2), (1, 8)], v1)) 2 rfl ?_
          refine e_Ok.callV rfl (by omega) rfl rfl rfl rfl (c_51 j4 (by omega) j5) (fun r10 w11 h12 => ?_)
          obtain ⟨rfl, q13f, q13T⟩ := h12
          have f14 : e_fr kLk w w11 := e_fr.trans j3 (e_fr.mono q13f (fun c k q => by exact q))
          have Q15 := kI.hm j5 q13T (e_fr.mono q13f (fun c k g => hm_kLk g))
          show e_Ok 20 elay kcode eI (d + 1) 50 (26, [(0, (1, 8)), (1, (1, 6 * t + 154)), (2, (0, y2))], [], w11) _
          refine e_Ok.inc (z := y2 + 1) rfl rfl (by omega) (by omega) ?_
          show e_Ok 20 elay kcode eI (d + 1) 50 (29, [(2, (0, y2 + 1)), (0, (1, 8)), (1, (1, 6 * t + 154))], [], w11) _
          refine e_Ok.run (t' := (2, [(2, (0, y2 + 1)), (0, (1, 8)), (1, (1, 6 * t + 154))], [], w11)) 1 rfl ?_
          refine e_Ok.sub kAlk (e_sub_of rfl ?_) (ih2 (y2 + 1) w11 ⟨f14, q13T, Q15, by omega⟩ (by omega))
          exact ⟨rfl, rfl, rfl, trivial⟩
  refine e_Ok.sub kAlk (e_sub_of rfl ?_) (hL1 (8 + 1 : Int).toNat 0 w ⟨(e_fr.refl w), hT, q, by omega⟩ (by omega))
  exact ⟨rfl, rfl, rfl, trivial⟩
theorem c_67 {d : Nat} (hd : 22 ≤ d) {w : eW} (hT : e_Has kTy w) {t l : Int} (g_t : 0 ≤ t ∧ t ≤ 15) (g_l : (-2147483648) ≤ l ∧ l ≤ 2147483647) {OP OD CL : Int → Int → Int} {h t0 : Int} (q : kI w OP OD CL h t0) (hk : sK w) : e_Ok 20 elay kcode eI d 67 (0, [(0, (1, 8)), (1, (1, 6 * t + 154)), (2, (0, l))], [], w) (fun r w' => r = [] ∧ e_fr kFk w w' ∧ e_Has kTy w' ∧ sK w') := by
  obtain ⟨d, rfl⟩ : ∃ e, d = e + 1 := ⟨d - 1, by omega⟩
  refine e_Ok.run (t' := (4, [(0, (1, 8)), (1, (1, 6 * t + 154)), (2, (0, l))], [(0, 7), (0, 0), (0, l)], w)) 3 rfl ?_
  refine e_Ok.callS rfl (by omega) rfl rfl (c_242 (by omega) (by omega) (by omega)) (fun r1 w2 h3 => ?_)
  obtain ⟨z4, rfl, rfl, q5⟩ := h3
  obtain ⟨rfl, q5⟩ | ⟨rfl, q5⟩ := q5
  · show e_Ok 20 elay kcode eI (d + 1) 67 (7, [(0, (1, 8)), (1, (1, 6 * t + 154)), (2, (0, l))], [(0, 1)], w) _
    refine e_Ok.if1 rfl (fun h6 => ?_) (fun h6 => ?_)
    · replace h6 : (1 : Int) = 0 := h6
      exfalso; omega
    · replace h6 : (1 : Int) ≠ 0 := by have q : ¬ ((1 : Int) = 0) := h6; omega
      refine e_Ok.run (t' := (11, [(0, (1, 8)), (1, (1, 6 * t + 154)), (2, (0, l))], [(1, 8)], w)) 1 rfl ?_
      refine e_Ok.getr (z := 83) rfl (el_o rfl) rfl rfl (Eq.trans (e_Has.eq hT rfl) (by omega)) (by omega) ?_
      refine e_Ok.run (t' := (15, [(0, (1, 8)), (1, (1, 6 * t + 154)), (2, (0, l))], [(0, l), (1, 83)], w)) 1 rfl ?_
      have h7 := (e_Has.get hT (c := 83) (k := l) (lo := (-1)) (hi := 15) rfl (by decide))
      refine e_Ok.ald (z := w 83 l) rfl (el_o rfl) rfl (by omega) rfl (by omega) ?_
      refine e_Ok.run (t' := (17, [(0, (1, 8)), (1, (1, 6 * t + 154)), (2, (0, l))], [(1, 6 * t + 154), (0, w 83 l)], w)) 1 rfl ?_
      refine e_Ok.getf (z := t) rfl (lT0 (t := t) (by omega) (by omega)) rfl rfl (Eq.trans (e_Has.eq hT (kT_0 (t := t) (by omega) (by omega))) (by omega)) (by omega) ?_
      refine e_Ok.if2 rfl (fun h8 => ?_) (fun h8 => ?_)
      · replace h8 : (w 83 l : Int) ≠ t := h8
        refine e_Ok.run (t' := (34, [(0, (1, 8)), (1, (1, 6 * t + 154)), (2, (0, l))], [(0, 9), (1, 8)], w)) 2 rfl ?_
        refine e_Ok.callV rfl (by omega) rfl rfl rfl rfl (c_46 hT (by omega) hk) (fun r9 w10 h11 => ?_)
        obtain ⟨rfl, q12f, q12T, q12x⟩ := h11
        have f13 : e_fr kFk w w10 := e_fr.trans (e_fr.refl w) (e_fr.mono q12f (fun c k q => by unfold kDs at q; unfold kFk; omega))
        show e_Ok 20 elay kcode eI (d + 1) 67 (37, [(0, (1, 8)), (1, (1, 6 * t + 154)), (2, (0, l))], [], w10) _
        refine e_Ok.rets rfl rfl ?_
        exact ⟨rfl, f13, q12T, q12x⟩
      · replace h8 : (w 83 l : Int) = t := by have q : ¬ ((w 83 l : Int) ≠ t) := h8; omega
        refine e_Ok.run (t' := (25, [(0, (1, 8)), (1, (1, 6 * t + 154)), (2, (0, l))], [(0, l), (1, 8)], w)) 2 rfl ?_
        refine e_Ok.callV rfl (by omega) rfl rfl rfl rfl (c_51 hT (by omega) q) (fun r14 w15 h16 => ?_)
        obtain ⟨rfl, q17f, q17T⟩ := h16
        have f18 : e_fr kFk w w15 := e_fr.trans (e_fr.refl w) (e_fr.mono q17f (fun c k q => by unfold kLk at q; unfold kFk; omega))
        show e_Ok 20 elay kcode eI (d + 1) 67 (28, [(0, (1, 8)), (1, (1, 6 * t + 154)), (2, (0, l))], [], w15) _
        refine e_Ok.run (t' := (37, [(0, (1, 8)), (1, (1, 6 * t + 154)), (2, (0, l))], [], w15)) 1 rfl ?_
        refine e_Ok.rets rfl rfl ?_
        exact ⟨rfl, f18, q17T, (sK.fr q17f (by unfold kLk; omega) (fun k => by unfold kLk; omega) hk)⟩
  · show e_Ok 20 elay kcode eI (d + 1) 67 (7, [(0, (1, 8)), (1, (1, 6 * t + 154)), (2, (0, l))], [(0, 0)], w) _
    refine e_Ok.if1 rfl (fun h19 => ?_) (fun h19 => ?_)
    · replace h19 : (0 : Int) = 0 := h19
      refine e_Ok.run (t' := (34, [(0, (1, 8)), (1, (1, 6 * t + 154)), (2, (0, l))], [(0, 9), (1, 8)], w)) 2 rfl ?_
      refine e_Ok.callV rfl (by omega) rfl rfl rfl rfl (c_46 hT (by omega) hk) (fun r20 w21 h22 => ?_)
      obtain ⟨rfl, q23f, q23T, q23x⟩ := h22
      have f24 : e_fr kFk w w21 := e_fr.trans (e_fr.refl w) (e_fr.mono q23f (fun c k q => by unfold kDs at q; unfold kFk; omega))
      show e_Ok 20 elay kcode eI (d + 1) 67 (37, [(0, (1, 8)), (1, (1, 6 * t + 154)), (2, (0, l))], [], w21) _
      refine e_Ok.rets rfl rfl ?_
      exact ⟨rfl, f24, q23T, q23x⟩
    · replace h19 : (0 : Int) ≠ 0 := by have q : ¬ ((0 : Int) = 0) := h19; omega
      exfalso; omega
theorem c_39 {d : Nat} {w : eW} (hT : e_Has kTy w) {a : Int} (g_a : (-1) ≤ a ∧ a ≤ 3) : e_Ok 20 elay kcode eI d 39 (0, [(0, (1, 8)), (1, (0, a))], [], w) (fun r w' => r = [] ∧ e_fr kMv w w' ∧ e_Has kTy w' ∧ ∀ i, 0 ≤ i → i ≤ 3 → w' (17 * i + 86) 19 ≠ 0) := by
  refine e_Ok.run (t' := (2, [(2, (0, 0)), (0, (1, 8)), (1, (0, a))], [], w)) 2 rfl ?_
  have hL1 : ∀ (nn : Nat) (y2 : Int) (v1 : eW), e_fr kMv w v1 ∧ e_Has kTy v1 ∧ (∀ i, 0 ≤ i → i < y2 → v1 (17 * i + 86) 19 ≠ 0) ∧ (0 ≤ y2 ∧ y2 ≤ 4) → 4 - y2 < nn → e_Ok 20 elay kcode eI d 39 (2, [(0, (1, 8)), (1, (0, a)), (2, (0, y2))], [], v1) (fun r w' => r = [] ∧ e_fr kMv w w' ∧ e_Has kTy w' ∧ ∀ i, 0 ≤ i → i ≤ 3 → w' (17 * i + 86) 19 ≠ 0) := by
    intro nn
    induction nn with
    | zero => intro y2 v1 hj hm; obtain ⟨j3, j4, j5, j6⟩ := hj; exfalso; omega
    | succ nn ih2 =>
      intro y2 v1 hj hm
      obtain ⟨j3, j4, j5, j6⟩ := hj
      refine e_Ok.run (t' := (4, [(0, (1, 8)), (1, (0, a)), (2, (0, y2))], [(0, 4), (0, y2)], v1)) 2 rfl ?_
      refine e_Ok.if2 rfl (fun h7 => ?_) (fun h7 => ?_)
      · replace h7 : (y2 : Int) ≥ 4 := h7
        refine e_Ok.run (t' := (38, [(0, (1, 8)), (1, (0, a)), (2, (0, y2))], [(1, 8)], v1)) 1 rfl ?_
        refine e_Ok.getr (z := 74) rfl (el_o rfl) rfl rfl ((j3 8 3 (by unfold kMv; omega)).trans (Eq.trans (e_Has.eq hT rfl) (by omega))) (by omega) ?_
        refine e_Ok.run (t' := (42, [(0, (1, 8)), (1, (0, a)), (2, (0, y2))], [(0, 0), (1, 74)], v1)) 1 rfl ?_
        refine e_Ok.putb rfl (el_o rfl) rfl rfl (by omega) ?_
        generalize hw8 : e_up v1 74 7 0 = w8
        have f9 : e_fr kMv w w8 := e_fr.up j3 hw8 (by unfold kMv; omega)
        have hT10 : e_Has kTy w8 := e_Has.upr j4 hw8 rfl (by omega)
        refine e_Ok.rets rfl rfl ?_
        exact ⟨rfl, f9, hT10, (fun i g1 g2 => by rw [← hw8, e_up_ne _ _ (Or.inl (by omega))]; exact j5 i g1 (by omega))⟩
      · replace h7 : (y2 : Int) < 4 := by have q : ¬ ((y2 : Int) ≥ 4) := h7; omega
        refine e_Ok.run (t' := (8, [(0, (1, 8)), (1, (0, a)), (2, (0, y2))], [(1, 8)], v1)) 1 rfl ?_
        refine e_Ok.getr (z := 9) rfl (el_o rfl) rfl rfl ((j3 8 0 (by unfold kMv; omega)).trans (Eq.trans (e_Has.eq hT rfl) (by omega))) (by omega) ?_
        refine e_Ok.run (t' := (12, [(0, (1, 8)), (1, (0, a)), (2, (0, y2))], [(0, y2), (1, 9)], v1)) 1 rfl ?_
        refine e_Ok.aald (z := 17 * y2 + 86) rfl (el_o rfl) rfl (by omega) ((j3 9 y2 (by unfold kMv; omega)).trans (Eq.trans (e_Has.eq hT (k9 (by omega))) (by omega))) (by omega) ?_
        refine e_Ok.run (t' := (14, [(0, (1, 8)), (1, (0, a)), (2, (0, y2))], [(1, 17 * y2 + 86), (1, 17 * y2 + 86)], v1)) 1 rfl ?_
        have h11 := (e_Has.get j4 (c := 17 * y2 + 86) (k := 19) (lo := (-2147483648)) (hi := 2147483647) (kA_19 (a := y2) (by omega) (by omega)) (by decide))
        refine e_Ok.getf (z := v1 (17 * y2 + 86) 19) rfl (lA0 (a := y2) (by omega) (by omega)) rfl rfl rfl (by omega) ?_
        refine e_Ok.run (t' := (19, [(0, (1, 8)), (1, (0, a)), (2, (0, y2))], [(0, a), (0, y2), (0, v1 (17 * y2 + 86) 19), (1, 17 * y2 + 86)], v1)) 2 rfl ?_
        have hJ14 : ∀ m13 : Int, 1 ≤ m13 ∧ m13 ≤ 2 → e_Ok 20 elay kcode eI d 39 (27, [(0, (1, 8)), (1, (0, a)), (2, (0, y2))], [(0, m13), (0, v1 (17 * y2 + 86) 19), (1, 17 * y2 + 86)], v1) (fun r w' => r = [] ∧ e_fr kMv w w' ∧ e_Has kTy w' ∧ ∀ i, 0 ≤ i → i ≤ 3 → w' (17 * i + 86) 19 ≠ 0) := by
          intro m13 m13r
          refine e_Ok.orne rfl (by omega) (fun z15 z15r z15n => ?_)
          refine e_Ok.putf rfl (lA0 (a := y2) (by omega) (by omega)) rfl rfl ?_
          generalize hw16 : e_up v1 (17 * y2 + 86) 19 z15 = w16
          have f17 : e_fr kMv w w16 := e_fr.up j3 hw16 (by unfold kMv; omega)
          have hT18 : e_Has kTy w16 := e_Has.upr j4 hw16 (kA_19 (a := y2) (by omega) (by omega)) (by omega)
          refine e_Ok.inc (z := y2 + 1) rfl rfl (by omega) (by omega) ?_
          show e_Ok 20 elay kcode eI d 39 (34, [(2, (0, y2 + 1)), (0, (1, 8)), (1, (0, a))], [], w16) _
          refine e_Ok.run (t' := (2, [(2, (0, y2 + 1)), (0, (1, 8)), (1, (0, a))], [], w16)) 1 rfl ?_
          refine e_Ok.sub kAlk (e_sub_of rfl ?_) (ih2 (y2 + 1) w16 ⟨f17, hT18, (fun i g1 g2 => by rw [← hw16]; by_cases e : i = y2; (rw [e, e_up_eq]; omega); (rw [e_up_ne _ _ (Or.inl (by omega))]; exact j5 i g1 (by omega))), by omega⟩ (by omega))
          exact ⟨rfl, rfl, rfl, trivial⟩
        refine e_Ok.if2 rfl (fun h12 => ?_) (fun h12 => ?_)
        · exact e_Ok.run 1 rfl (hJ14 2 (by omega))
        · exact e_Ok.run 2 rfl (hJ14 1 (by omega))
  refine e_Ok.sub kAlk (e_sub_of rfl ?_) (hL1 (4 + 1 : Int).toNat 0 w ⟨(e_fr.refl w), hT, (fun i g1 g2 => by omega), by omega⟩ (by omega))
  exact ⟨rfl, rfl, rfl, trivial⟩
theorem c_41 {d : Nat} (hd : 21 ≤ d) {w : eW} (hT : e_Has kTy w) {a : Int} (g_a : 0 ≤ a ∧ a ≤ 3) (he : w 74 1 < 2147483647) : e_Ok 20 elay kcode eI d 41 (0, [(0, (1, 8)), (1, (0, a))], [], w) (fun r w' => r = [] ∧ e_fr (kBk a) w w' ∧ e_Has kTy w' ∧ (w' 74 1 = w 74 1 + 1 ∧ (lgK w → lgK w')) ∧ w' (17 * a + 86) 18 = -1) := by
  obtain ⟨d, rfl⟩ : ∃ e, d = e + 1 := ⟨d - 1, by omega⟩
  refine e_Ok.run (t' := (1, [(0, (1, 8)), (1, (0, a))], [(1, 8)], w)) 1 rfl ?_
  refine e_Ok.getr (z := 74) rfl (el_o rfl) rfl rfl (Eq.trans (e_Has.eq hT rfl) (by omega)) (by omega) ?_
  refine e_Ok.run (t' := (8, [(0, (1, 8)), (1, (0, a))], [(0, 0), (0, a), (0, 9), (1, 74)], w)) 3 rfl ?_
  refine e_Ok.callV rfl (by omega) rfl rfl rfl rfl (c_27 hT (by omega) (by omega) (by omega) (by omega)) (fun r1 w2 h3 => ?_)
  obtain ⟨rfl, q4f, q4T, q4x⟩ := h3
  have f5 : e_fr (kBk a) w w2 := e_fr.trans (e_fr.refl w) (e_fr.mono q4f (fun c k q => by unfold kLg at q; unfold kBk; omega))
  show e_Ok 20 elay kcode eI (d + 1) 41 (11, [(0, (1, 8)), (1, (0, a))], [], w2) _
  refine e_Ok.run (t' := (12, [(0, (1, 8)), (1, (0, a))], [(1, 8)], w2)) 1 rfl ?_
  refine e_Ok.getr (z := 9) rfl (el_o rfl) rfl rfl ((q4f 8 0 (by unfold kLg; omega)).trans (Eq.trans (e_Has.eq hT rfl) (by omega))) (by omega) ?_
  refine e_Ok.run (t' := (16, [(0, (1, 8)), (1, (0, a))], [(0, a), (1, 9)], w2)) 1 rfl ?_
  refine e_Ok.aald (z := 17 * a + 86) rfl (el_o rfl) rfl (by omega) ((q4f 9 a (by unfold kLg; omega)).trans (Eq.trans (e_Has.eq hT (k9 (by omega))) (by omega))) (by omega) ?_
  have h6 := (e_Has.get hT (c := 17 * a + 86) (k := 13) (lo := (-1)) (hi := 15) (kA_13 (a := a) (by omega) (by omega)) (by decide))
  refine e_Ok.getf (z := w (17 * a + 86) 13) rfl (lA0 (a := a) (by omega) (by omega)) rfl rfl ((q4f (17 * a + 86) 13 (by unfold kLg; omega)).trans rfl) (by omega) ?_
  refine e_Ok.if1 rfl (fun h7 => ?_) (fun h7 => ?_)
  · replace h7 : (w (17 * a + 86) 13 : Int) < 0 := h7
    refine e_Ok.run (t' := (42, [(0, (1, 8)), (1, (0, a))], [(1, 8)], w2)) 1 rfl ?_
    refine e_Ok.getr (z := 9) rfl (el_o rfl) rfl rfl ((q4f 8 0 (by unfold kLg; omega)).trans (Eq.trans (e_Has.eq hT rfl) (by omega))) (by omega) ?_
    refine e_Ok.run (t' := (46, [(0, (1, 8)), (1, (0, a))], [(0, a), (1, 9)], w2)) 1 rfl ?_
    refine e_Ok.aald (z := 17 * a + 86) rfl (el_o rfl) rfl (by omega) ((q4f 9 a (by unfold kLg; omega)).trans (Eq.trans (e_Has.eq hT (k9 (by omega))) (by omega))) (by omega) ?_
    refine e_Ok.run (t' := (48, [(0, (1, 8)), (1, (0, a))], [(0, (-1)), (1, 17 * a + 86)], w2)) 1 rfl ?_
    refine e_Ok.putf rfl (lA0 (a := a) (by omega) (by omega)) rfl rfl ?_
    generalize hw8 : e_up w2 (17 * a + 86) 13 (-1) = w8
    have f9 : e_fr (kBk a) w w8 := e_fr.up f5 hw8 (by unfold kBk; omega)
    have hT10 : e_Has kTy w8 := e_Has.upr q4T hw8 (kA_13 (a := a) (by omega) (by omega)) (by omega)
    refine e_Ok.run (t' := (52, [(0, (1, 8)), (1, (0, a))], [(1, 8)], w8)) 1 rfl ?_
    refine e_Ok.getr (z := 9) rfl (el_o rfl) rfl rfl (by rw [← hw8]; exact (e_up_ne _ _ (Or.inr (by omega))).trans ((q4f 8 0 (by unfold kLg; omega)).trans (Eq.trans (e_Has.eq hT rfl) (by omega)))) (by omega) ?_
    refine e_Ok.run (t' := (56, [(0, (1, 8)), (1, (0, a))], [(0, a), (1, 9)], w8)) 1 rfl ?_
    refine e_Ok.aald (z := 17 * a + 86) rfl (el_o rfl) rfl (by omega) (by rw [← hw8]; exact (e_up_ne _ _ (Or.inl (by omega))).trans ((q4f 9 a (by unfold kLg; omega)).trans (Eq.trans (e_Has.eq hT (k9 (by omega))) (by omega)))) (by omega) ?_
    refine e_Ok.run (t' := (58, [(0, (1, 8)), (1, (0, a))], [(0, (-1)), (1, 17 * a + 86)], w8)) 1 rfl ?_
    refine e_Ok.putf rfl (lA0 (a := a) (by omega) (by omega)) rfl rfl ?_
    generalize hw11 : e_up w8 (17 * a + 86) 18 (-1) = w11
    have f12 : e_fr (kBk a) w w11 := e_fr.up f9 hw11 (by unfold kBk; omega)
    have hT13 : e_Has kTy w11 := e_Has.upr hT10 hw11 (kA_18 (a := a) (by omega) (by omega)) (by omega)
    refine e_Ok.rets rfl rfl ?_
    exact ⟨rfl, f12, hT13, ⟨by rw [← hw11, e_up_ne _ _ (by omega), ← hw8, e_up_ne _ _ (by omega)]; exact q4x.1, fun hL => lgK.fr (S := fun c k => (c = 17 * a + 86 ∧ k = 13) ∨ (c = 17 * a + 86 ∧ k = 18)) (fun c k g => by rw [← hw11, e_up_ne _ _ (by omega), ← hw8, e_up_ne _ _ (by omega)]) (by omega) (fun k => by omega) (q4x.2 hL)⟩, (by rw [← hw11]; exact e_up_eq _ _ _ _)⟩
  · replace h7 : (w (17 * a + 86) 13 : Int) ≥ 0 := by have q : ¬ ((w (17 * a + 86) 13 : Int) < 0) := h7; omega
    refine e_Ok.run (t' := (24, [(0, (1, 8)), (1, (0, a))], [(1, 8)], w2)) 1 rfl ?_
    refine e_Ok.getr (z := 82) rfl (el_o rfl) rfl rfl ((q4f 8 4 (by unfold kLg; omega)).trans (Eq.trans (e_Has.eq hT rfl) (by omega))) (by omega) ?_
    refine e_Ok.run (t' := (28, [(0, (1, 8)), (1, (0, a))], [(1, 8), (1, 82)], w2)) 1 rfl ?_
    refine e_Ok.getr (z := 9) rfl (el_o rfl) rfl rfl ((q4f 8 0 (by unfold kLg; omega)).trans (Eq.trans (e_Has.eq hT rfl) (by omega))) (by omega) ?_
    refine e_Ok.run (t' := (32, [(0, (1, 8)), (1, (0, a))], [(0, a), (1, 9), (1, 82)], w2)) 1 rfl ?_
    refine e_Ok.aald (z := 17 * a + 86) rfl (el_o rfl) rfl (by omega) ((q4f 9 a (by unfold kLg; omega)).trans (Eq.trans (e_Has.eq hT (k9 (by omega))) (by omega))) (by omega) ?_
    refine e_Ok.getf (z := w (17 * a + 86) 13) rfl (lA0 (a := a) (by omega) (by omega)) rfl rfl ((q4f (17 * a + 86) 13 (by unfold kLg; omega)).trans rfl) (by omega) ?_
    refine e_Ok.aald (z := 6 * w (17 * a + 86) 13 + 154) rfl (el_o rfl) rfl (by omega) ((q4f 82 (w (17 * a + 86) 13) (by unfold kLg; omega)).trans (Eq.trans (e_Has.eq hT (k82 (by omega))) (by omega))) (by omega) ?_
    refine e_Ok.run (t' := (38, [(0, (1, 8)), (1, (0, a))], [(0, 1), (1, 6 * w (17 * a + 86) 13 + 154)], w2)) 1 rfl ?_
    refine e_Ok.putb rfl (lT0 (t := (w (17 * a + 86) 13)) (by omega) (by omega)) rfl rfl (by omega) ?_
    generalize hw14 : e_up w2 (6 * w (17 * a + 86) 13 + 154) 10 1 = w14
    have f15 : e_fr (kBk a) w w14 := e_fr.up f5 hw14 (by unfold kBk; omega)
    have hT16 : e_Has kTy w14 := e_Has.upr q4T hw14 (kT_10 (t := (w (17 * a + 86) 13)) (by omega) (by omega)) (by omega)
    refine e_Ok.run (t' := (42, [(0, (1, 8)), (1, (0, a))], [(1, 8)], w14)) 1 rfl ?_
    refine e_Ok.getr (z := 9) rfl (el_o rfl) rfl rfl (by rw [← hw14]; exact (e_up_ne _ _ (Or.inr (by omega))).trans ((q4f 8 0 (by unfold kLg; omega)).trans (Eq.trans (e_Has.eq hT rfl) (by omega)))) (by omega) ?_
    refine e_Ok.run (t' := (46, [(0, (1, 8)), (1, (0, a))], [(0, a), (1, 9)], w14)) 1 rfl ?_
    refine e_Ok.aald (z := 17 * a + 86) rfl (el_o rfl) rfl (by omega) (by rw [← hw14]; exact (e_up_ne _ _ (Or.inl (by omega))).trans ((q4f 9 a (by unfold kLg; omega)).trans (Eq.trans (e_Has.eq hT (k9 (by omega))) (by omega)))) (by omega) ?_
    refine e_Ok.run (t' := (48, [(0, (1, 8)), (1, (0, a))], [(0, (-1)), (1, 17 * a + 86)], w14)) 1 rfl ?_
    refine e_Ok.putf rfl (lA0 (a := a) (by omega) (by omega)) rfl rfl ?_
    generalize hw17 : e_up w14 (17 * a + 86) 13 (-1) = w17
    have f18 : e_fr (kBk a) w w17 := e_fr.up f15 hw17 (by unfold kBk; omega)
    have hT19 : e_Has kTy w17 := e_Has.upr hT16 hw17 (kA_13 (a := a) (by omega) (by omega)) (by omega)
    refine e_Ok.run (t' := (52, [(0, (1, 8)), (1, (0, a))], [(1, 8)], w17)) 1 rfl ?_
    refine e_Ok.getr (z := 9) rfl (el_o rfl) rfl rfl (by rw [← hw17]; exact (e_up_ne _ _ (Or.inr (by omega))).trans (by rw [← hw14]; exact (e_up_ne _ _ (Or.inr (by omega))).trans ((q4f 8 0 (by unfold kLg; omega)).trans (Eq.trans (e_Has.eq hT rfl) (by omega))))) (by omega) ?_
    refine e_Ok.run (t' := (56, [(0, (1, 8)), (1, (0, a))], [(0, a), (1, 9)], w17)) 1 rfl ?_
    refine e_Ok.aald (z := 17 * a + 86) rfl (el_o rfl) rfl (by omega) (by rw [← hw17]; exact (e_up_ne _ _ (Or.inl (by omega))).trans (by rw [← hw14]; exact (e_up_ne _ _ (Or.inl (by omega))).trans ((q4f 9 a (by unfold kLg; omega)).trans (Eq.trans (e_Has.eq hT (k9 (by omega))) (by omega))))) (by omega) ?_
    refine e_Ok.run (t' := (58, [(0, (1, 8)), (1, (0, a))], [(0, (-1)), (1, 17 * a + 86)], w17)) 1 rfl ?_
    refine e_Ok.putf rfl (lA0 (a := a) (by omega) (by omega)) rfl rfl ?_
    generalize hw20 : e_up w17 (17 * a + 86) 18 (-1) = w20
    have f21 : e_fr (kBk a) w w20 := e_fr.up f18 hw20 (by unfold kBk; omega)
    have hT22 : e_Has kTy w20 := e_Has.upr hT19 hw20 (kA_18 (a := a) (by omega) (by omega)) (by omega)
    refine e_Ok.rets rfl rfl ?_
    exact ⟨rfl, f21, hT22, ⟨by rw [← hw20, e_up_ne _ _ (by omega), ← hw17, e_up_ne _ _ (by omega), ← hw14, e_up_ne _ _ (by omega)]; exact q4x.1, fun hL => lgK.fr (S := fun c k => (c = 6 * w (17 * a + 86) 13 + 154 ∧ k = 10) ∨ (c = 17 * a + 86 ∧ k = 13) ∨ (c = 17 * a + 86 ∧ k = 18)) (fun c k g => by rw [← hw20, e_up_ne _ _ (by omega), ← hw17, e_up_ne _ _ (by omega), ← hw14, e_up_ne _ _ (by omega)]) (by omega) (fun k => by omega) (q4x.2 hL)⟩, (by rw [← hw20]; exact e_up_eq _ _ _ _)⟩
theorem c_40 {d : Nat} (hd : 22 ≤ d) {w : eW} (hT : e_Has kTy w) {a : Int} (g_a : 0 ≤ a ∧ a ≤ 3) {OP OD CL : Int → Int → Int} {h t0 : Int} (q : kI w OP OD CL h t0) (he : w 74 1 < 2147483647) : e_Ok 20 elay kcode eI d 40 (0, [(0, (1, 8)), (1, (0, a))], [], w) (fun r w' => r = [] ∧ e_fr (kBa a) w w' ∧ e_Has kTy w' ∧ (kI w' OP OD CL h t0 ∧ w 74 1 ≤ w' 74 1 ∧ w' 74 1 ≤ w 74 1 + 1)) := by
  obtain ⟨d, rfl⟩ : ∃ e, d = e + 1 := ⟨d - 1, by omega⟩
  refine e_Ok.run (t' := (1, [(0, (1, 8)), (1, (0, a))], [(1, 8)], w)) 1 rfl ?_
  refine e_Ok.getr (z := 9) rfl (el_o rfl) rfl rfl (Eq.trans (e_Has.eq hT rfl) (by omega)) (by omega) ?_
  refine e_Ok.run (t' := (5, [(0, (1, 8)), (1, (0, a))], [(0, a), (1, 9)], w)) 1 rfl ?_
  refine e_Ok.aald (z := 17 * a + 86) rfl (el_o rfl) rfl (by omega) (Eq.trans (e_Has.eq hT (k9 (by omega))) (by omega)) (by omega) ?_
  have h1 := (e_Has.get hT (c := 17 * a + 86) (k := 11) (lo := 0) (hi := 2) (kA_11 (a := a) (by omega) (by omega)) (by decide))
  refine e_Ok.getf (z := w (17 * a + 86) 11) rfl (lA0 (a := a) (by omega) (by omega)) rfl rfl rfl (by omega) ?_
  refine e_Ok.run (t' := (10, [(0, (1, 8)), (1, (0, a))], [(0, 1), (0, w (17 * a + 86) 11)], w)) 1 rfl ?_
  refine e_Ok.if2 rfl (fun h2 => ?_) (fun h2 => ?_)
  · replace h2 : (w (17 * a + 86) 11 : Int) = 1 := h2
    refine e_Ok.run (t' := (16, [(0, (1, 8)), (1, (0, a))], [(0, a), (1, 8)], w)) 2 rfl ?_
    refine e_Ok.callV rfl (by omega) rfl rfl rfl rfl (c_41 (by omega) hT (by omega) (by omega)) (fun r3 w4 h5 => ?_)
    obtain ⟨rfl, q6f, q6T, q6x⟩ := h5
    have f7 : e_fr (kBa a) w w4 := e_fr.trans (e_fr.refl w) (e_fr.mono q6f (fun c k q => by unfold kBk at q; unfold kBa; omega))
    show e_Ok 20 elay kcode eI (d + 1) 40 (19, [(0, (1, 8)), (1, (0, a))], [], w4) _
    refine e_Ok.run (t' := (20, [(0, (1, 8)), (1, (0, a))], [(1, 8)], w4)) 1 rfl ?_
    refine e_Ok.getr (z := 9) rfl (el_o rfl) rfl rfl ((q6f 8 0 (by unfold kBk; omega)).trans (Eq.trans (e_Has.eq hT rfl) (by omega))) (by omega) ?_
    refine e_Ok.run (t' := (24, [(0, (1, 8)), (1, (0, a))], [(0, a), (1, 9)], w4)) 1 rfl ?_
    refine e_Ok.aald (z := 17 * a + 86) rfl (el_o rfl) rfl (by omega) ((q6f 9 a (by unfold kBk; omega)).trans (Eq.trans (e_Has.eq hT (k9 (by omega))) (by omega))) (by omega) ?_
    refine e_Ok.run (t' := (26, [(0, (1, 8)), (1, (0, a))], [(0, 2), (1, 17 * a + 86)], w4)) 1 rfl ?_
    refine e_Ok.putf rfl (lA0 (a := a) (by omega) (by omega)) rfl rfl ?_
    generalize hw8 : e_up w4 (17 * a + 86) 11 2 = w8
    have f9 : e_fr (kBa a) w w8 := e_fr.up f7 hw8 (by unfold kBa; omega)
    have hT10 : e_Has kTy w8 := e_Has.upr q6T hw8 (kA_11 (a := a) (by omega) (by omega)) (by omega)
    refine e_Ok.rets rfl rfl ?_
    have hA := (q.arm (a := a) (by omega) (by omega)).brk (w' := w8) (kn_joints hT (by omega)).2 (fun c k g1 g2 => by rw [← hw8, e_up_ne _ _ (by omega)]; exact q6f c k (by unfold dA at g1; unfold kBk; omega)) (by omega) (by rw [← hw8]; exact e_up_eq _ _ _ _) (by rw [← hw8, e_up_ne _ _ (by omega)]; exact q6x.2)
    have hp := q.pw
    have e74 : w8 74 1 = w 74 1 + 1 := by rw [← hw8, e_up_ne _ _ (by omega)]; exact q6x.1.1
    exact ⟨rfl, f9, hT10, ⟨kI.ar q hT10 (by omega) (e_fr.mono f9 (fun c k g => ah_kBa g)) (lgK.fr (S := fun c k => c = 17 * a + 86 ∧ k = 11) (fun c k g => by rw [← hw8, e_up_ne _ _ (by omega)]) (by omega) (fun k => by omega) (q6x.1.2 q.lgk)) hA (fun g g9 => by have := hp g a (by omega) (by omega) g9; omega), by omega, by omega⟩⟩
  · replace h2 : (w (17 * a + 86) 11 : Int) ≠ 1 := by have q : ¬ ((w (17 * a + 86) 11 : Int) = 1) := h2; omega
    refine e_Ok.rets rfl rfl ?_
    exact ⟨rfl, (e_fr.refl w), hT, ⟨q, by omega, by omega⟩⟩
theorem c_65 {d : Nat} (hd : 23 ≤ d) {w : eW} (hT : e_Has kTy w) {v p : Int} (g_v : (-2147483648) ≤ v ∧ v ≤ 2147483647) (g_p : (-2147483648) ≤ p ∧ p ≤ 2147483647) {OP OD CL : Int → Int → Int} {h t0 : Int} (q : kI w OP OD CL h t0) (hk : sK w) : e_Ok 20 elay kcode eI d 65 (0, [(0, (1, 8)), (1, (0, v)), (2, (0, p))], [], w) (fun r w' => r = [] ∧ e_fr kSP w w' ∧ e_Has kTy w' ∧ (kI w' OP OD CL h t0 ∧ sK w')) := by
  obtain ⟨d, rfl⟩ : ∃ e, d = e + 1 := ⟨d - 1, by omega⟩
  refine e_Ok.run (t' := (1, [(0, (1, 8)), (1, (0, v)), (2, (0, p))], [(0, p)], w)) 1 rfl ?_
  refine e_Ok.callS rfl (by omega) rfl rfl (c_245 (by omega) (by omega)) (fun r1 w2 h3 => ?_)
  obtain ⟨z4, rfl, rfl, q5⟩ := h3
  obtain ⟨rfl, q5⟩ | ⟨rfl, q5⟩ := q5
  · show e_Ok 20 elay kcode eI (d + 1) 65 (4, [(0, (1, 8)), (1, (0, v)), (2, (0, p))], [(0, 1)], w) _
    refine e_Ok.if1 rfl (fun h6 => ?_) (fun h6 => ?_)
    · replace h6 : (1 : Int) = 0 := h6
      exfalso; omega
    · replace h6 : (1 : Int) ≠ 0 := by have q : ¬ ((1 : Int) = 0) := h6; omega
      refine e_Ok.run (t' := (8, [(0, (1, 8)), (1, (0, v)), (2, (0, p))], [(1, 8)], w)) 1 rfl ?_
      refine e_Ok.getr (z := 10) rfl (el_o rfl) rfl rfl (Eq.trans (e_Has.eq hT rfl) (by omega)) (by omega) ?_
      refine e_Ok.run (t' := (13, [(0, (1, 8)), (1, (0, v)), (2, (0, p))], [(0, v), (0, p), (1, 10)], w)) 2 rfl ?_
      refine e_Ok.callV rfl (by omega) rfl rfl rfl rfl (c_113 (by omega) hT (by omega) (by omega) q.pf) (fun r7 w8 h9 => ?_)
      obtain ⟨z11, rfl, q10f, q10T, q10r, q10x⟩ := h9
      have f12 : e_fr kSP w w8 := e_fr.trans (e_fr.refl w) (e_fr.mono q10f (fun c k q => by unfold kPo at q; unfold kSP; omega))
      show e_Ok 20 elay kcode eI (d + 1) 65 (16, [(0, (1, 8)), (1, (0, v)), (2, (0, p))], [(0, z11)], w8) _
      refine e_Ok.run (t' := (25, [(0, (1, 8)), (1, (0, v)), (2, (0, p))], [], w8)) 2 rfl ?_
      refine e_Ok.rets rfl rfl ?_
      exact ⟨rfl, f12, q10T, ⟨kI.po q q10T (e_fr.mono q10f (fun c k g => ph_kPo g)) q10x, (sK.fr q10f (by unfold kPo; omega) (fun k => by unfold kPo; omega) hk)⟩⟩
  · show e_Ok 20 elay kcode eI (d + 1) 65 (4, [(0, (1, 8)), (1, (0, v)), (2, (0, p))], [(0, 0)], w) _
    refine e_Ok.if1 rfl (fun h13 => ?_) (fun h13 => ?_)
    · replace h13 : (0 : Int) = 0 := h13
      refine e_Ok.run (t' := (22, [(0, (1, 8)), (1, (0, v)), (2, (0, p))], [(0, 2), (1, 8)], w)) 2 rfl ?_
      refine e_Ok.callV rfl (by omega) rfl rfl rfl rfl (c_46 hT (by omega) hk) (fun r14 w15 h16 => ?_)
      obtain ⟨rfl, q17f, q17T, q17x⟩ := h16
      have f18 : e_fr kSP w w15 := e_fr.trans (e_fr.refl w) (e_fr.mono q17f (fun c k q => by unfold kDs at q; unfold kSP; omega))
      have Q19 := kI.hm q q17T (e_fr.mono q17f (fun c k g => hm_kDs g))
      show e_Ok 20 elay kcode eI (d + 1) 65 (25, [(0, (1, 8)), (1, (0, v)), (2, (0, p))], [], w15) _
      refine e_Ok.rets rfl rfl ?_
      exact ⟨rfl, f18, q17T, ⟨Q19, q17x⟩⟩
    · replace h13 : (0 : Int) ≠ 0 := by have q : ¬ ((0 : Int) = 0) := h13; omega
      exfalso; omega
end
