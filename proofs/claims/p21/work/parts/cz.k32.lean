noncomputable section
/-! the class: what rewind sets, exactly -/
def kF11 (c k : Int) : Prop := c = 11
def kF13 (c k : Int) : Prop := c = 13
def kF83 (c k : Int) : Prop := c = 83
def kF72 (c k : Int) : Prop := c = 272
def kF93 (a : Int) (c k : Int) : Prop := c = 17 * a + 93
def kCr (c k : Int) : Prop := (c = 74 ∧ (k = 0 ∨ k = 1 ∨ (3 ≤ k ∧ k ≤ 7))) ∨ (78 ≤ c ∧ c ≤ 81)
def kDr (c k : Int) : Prop := (154 ≤ c ∧ c ≤ 249) ∨ c = 83 ∨ (c = 8 ∧ k = 9)
def kPr (c k : Int) : Prop := (11 ≤ c ∧ c ≤ 13) ∨ c = 16
/-- the core as it is at the beginning -/
def cR0 (w : eW) : Prop := (w 74 0 = 0 ∧ w 74 1 = 0 ∧ w 74 3 = 0 ∧ w 74 4 = 0 ∧ w 74 5 = 0 ∧ w 74 6 = 0 ∧ w 74 7 = 0) ∧ ∀ i, 0 ≤ i → i < 8 → w 78 i = 1 ∧ w 79 i = 1 ∧ w 80 i = 0 ∧ w 81 i = 0
/-- a task that there is not -/
def tR0 (w : eW) (t : Int) : Prop := (w (6 * t + 154) 1 = 0 ∧ w (6 * t + 154) 2 = -1 ∧ w (6 * t + 154) 3 = 0 ∧ w (6 * t + 154) 4 = 0 ∧ w (6 * t + 154) 5 = 0 ∧ w (6 * t + 154) 6 = 0) ∧ w (6 * t + 154) 7 = 0 ∧ w (6 * t + 154) 10 = 0 ∧ w (6 * t + 154) 11 = -1 ∧ w (6 * t + 154) 14 = 0 ∧ w (6 * t + 154) 15 = 0
theorem tR0.fr {S : Int → Int → Prop} {w w' : eW} {t : Int} (f : e_fr S w w') (hS : ∀ k, ¬ S (6 * t + 154) k) (h : tR0 w t) : tR0 w' t := by
  have e : ∀ k, w' (6 * t + 154) k = w (6 * t + 154) k := fun k => f _ _ (hS k)
  unfold tR0 at h ⊢
  rw [e 1, e 2, e 3, e 4, e 5, e 6, e 7, e 10, e 11, e 14, e 15]
  exact h
/-- how values follow from the wires alone -/
def rc0 (w : eW) (u : Int → Int) (p : Int) : Int := if w 15 p < 0 then 0 else if w 17 p = 0 then u (w 15 p) else if u (w 15 p) = 0 then 1 else 0
def vFx (w : eW) (V : Int → Int) : Prop := ∀ p, 0 ≤ p → p ≤ 63 → V p = rc0 w V p
theorem vFx.pFx {w v : eW} {V : Int → Int} (h : vFx w V) (h15 : ∀ p, v 15 p = w 15 p) (h17 : ∀ p, v 17 p = w 17 p) (h11 : ∀ p, 0 ≤ p → p < 64 → v 11 p = 0) (h16 : ∀ p, 0 ≤ p → p < 64 → v 16 p = 0) : pFx v V := fun p g1 g2 => by
  have q := h p g1 g2
  unfold rc0 at q
  unfold rcv
  rw [h16 p g1 (by omega), h11 p g1 (by omega), h15, h17, if_neg (by decide)]
  exact q
theorem c_452_11 {d : Nat} {w : eW} (hT : e_Has kTy w) : e_Ok 20 elay kcode eI d 452 (0, [(0, (1, 11)), (1, (0, 0))], [], w) (fun r w' => r = [] ∧ e_fr kF11 w w' ∧ e_Has kTy w' ∧ (∀ k, 0 ≤ k → k < 64 → w' 11 k = 0)) := by
  refine e_Ok.run (t' := (3, [(2, (0, 0)), (0, (1, 11)), (1, (0, 0))], [(1, 11)], w)) 3 rfl ?_
  refine e_Ok.alen rfl rfl rfl ?_
  refine e_Ok.run (t' := (5, [(3, (0, 64)), (2, (0, 0)), (0, (1, 11)), (1, (0, 0))], [], w)) 1 rfl ?_
  have hL1 : ∀ (nn : Nat) (y2 : Int) (v1 : eW), e_fr kF11 w v1 ∧ e_Has kTy v1 ∧ (∀ i, 0 ≤ i → i < y2 → v1 11 i = 0) ∧ (0 ≤ y2 ∧ y2 ≤ 64) → 64 - y2 < nn → e_Ok 20 elay kcode eI d 452 (5, [(0, (1, 11)), (1, (0, 0)), (2, (0, y2)), (3, (0, 64))], [], v1) (fun r w' => r = [] ∧ e_fr kF11 w w' ∧ e_Has kTy w' ∧ (∀ k, 0 ≤ k → k < 64 → w' 11 k = 0)) := by
    intro nn
    induction nn with
    | zero => intro y2 v1 hj hm; obtain ⟨j3, j4, j5, j6⟩ := hj; exfalso; omega
    | succ nn ih2 =>
      intro y2 v1 hj hm
      obtain ⟨j3, j4, j5, j6⟩ := hj
      refine e_Ok.run (t' := (7, [(0, (1, 11)), (1, (0, 0)), (2, (0, y2)), (3, (0, 64))], [(0, 64), (0, y2)], v1)) 2 rfl ?_
      refine e_Ok.if2 rfl (fun h7 => ?_) (fun h7 => ?_)
      · replace h7 : (y2 : Int) ≥ 64 := h7
        refine e_Ok.rets rfl rfl ?_
        exact ⟨rfl, j3, j4, fun k g1 g2 => j5 k g1 (by omega)⟩
      · replace h7 : (y2 : Int) < 64 := by have q : ¬ ((y2 : Int) ≥ 64) := h7; omega
        refine e_Ok.run (t' := (13, [(0, (1, 11)), (1, (0, 0)), (2, (0, y2)), (3, (0, 64))], [(0, 0), (0, y2), (1, 11)], v1)) 3 rfl ?_
        refine e_Ok.ast rfl (el_o rfl) rfl rfl (by omega) ?_
        generalize hw8 : e_up v1 11 y2 0 = w8
        have f9 : e_fr kF11 w w8 := e_fr.up j3 hw8 (by unfold kF11; omega)
        have hT10 : e_Has kTy w8 := e_Has.upr j4 hw8 rfl (by omega)
        refine e_Ok.inc (z := y2 + 1) rfl rfl (by omega) (by omega) ?_
        show e_Ok 20 elay kcode eI d 452 (17, [(2, (0, y2 + 1)), (0, (1, 11)), (1, (0, 0)), (3, (0, 64))], [], w8) _
        refine e_Ok.run (t' := (5, [(2, (0, y2 + 1)), (0, (1, 11)), (1, (0, 0)), (3, (0, 64))], [], w8)) 1 rfl ?_
        refine e_Ok.sub kAlk (e_sub_of rfl ?_) (ih2 (y2 + 1) w8 ⟨f9, hT10, (fun i g1 g2 => by rw [← hw8]; by_cases e : i = y2; (rw [e, e_up_eq]); (rw [e_up_ne _ _ (Or.inr e)]; exact j5 i g1 (by omega))), by omega⟩ (by omega))
        exact ⟨rfl, rfl, rfl, rfl, trivial⟩
  refine e_Ok.sub kAlk (e_sub_of rfl ?_) (hL1 (64 + 1 : Int).toNat 0 w ⟨(e_fr.refl w), hT, (fun i g1 g2 => by omega), by omega⟩ (by omega))
  exact ⟨rfl, rfl, rfl, rfl, trivial⟩
theorem c_452_13 {d : Nat} {w : eW} (hT : e_Has kTy w) : e_Ok 20 elay kcode eI d 452 (0, [(0, (1, 13)), (1, (0, 0))], [], w) (fun r w' => r = [] ∧ e_fr kF13 w w' ∧ e_Has kTy w' ∧ (∀ k, 0 ≤ k → k < 64 → w' 13 k = 0)) := by
  refine e_Ok.run (t' := (3, [(2, (0, 0)), (0, (1, 13)), (1, (0, 0))], [(1, 13)], w)) 3 rfl ?_
  refine e_Ok.alen rfl rfl rfl ?_
  refine e_Ok.run (t' := (5, [(3, (0, 64)), (2, (0, 0)), (0, (1, 13)), (1, (0, 0))], [], w)) 1 rfl ?_
  have hL1 : ∀ (nn : Nat) (y2 : Int) (v1 : eW), e_fr kF13 w v1 ∧ e_Has kTy v1 ∧ (∀ i, 0 ≤ i → i < y2 → v1 13 i = 0) ∧ (0 ≤ y2 ∧ y2 ≤ 64) → 64 - y2 < nn → e_Ok 20 elay kcode eI d 452 (5, [(0, (1, 13)), (1, (0, 0)), (2, (0, y2)), (3, (0, 64))], [], v1) (fun r w' => r = [] ∧ e_fr kF13 w w' ∧ e_Has kTy w' ∧ (∀ k, 0 ≤ k → k < 64 → w' 13 k = 0)) := by
    intro nn
    induction nn with
    | zero => intro y2 v1 hj hm; obtain ⟨j3, j4, j5, j6⟩ := hj; exfalso; omega
    | succ nn ih2 =>
      intro y2 v1 hj hm
      obtain ⟨j3, j4, j5, j6⟩ := hj
      refine e_Ok.run (t' := (7, [(0, (1, 13)), (1, (0, 0)), (2, (0, y2)), (3, (0, 64))], [(0, 64), (0, y2)], v1)) 2 rfl ?_
      refine e_Ok.if2 rfl (fun h7 => ?_) (fun h7 => ?_)
      · replace h7 : (y2 : Int) ≥ 64 := h7
        refine e_Ok.rets rfl rfl ?_
        exact ⟨rfl, j3, j4, fun k g1 g2 => j5 k g1 (by omega)⟩
      · replace h7 : (y2 : Int) < 64 := by have q : ¬ ((y2 : Int) ≥ 64) := h7; omega
        refine e_Ok.run (t' := (13, [(0, (1, 13)), (1, (0, 0)), (2, (0, y2)), (3, (0, 64))], [(0, 0), (0, y2), (1, 13)], v1)) 3 rfl ?_
        refine e_Ok.ast rfl (el_o rfl) rfl rfl (by omega) ?_
        generalize hw8 : e_up v1 13 y2 0 = w8
        have f9 : e_fr kF13 w w8 := e_fr.up j3 hw8 (by unfold kF13; omega)
        have hT10 : e_Has kTy w8 := e_Has.upr j4 hw8 rfl (by omega)
        refine e_Ok.inc (z := y2 + 1) rfl rfl (by omega) (by omega) ?_
        show e_Ok 20 elay kcode eI d 452 (17, [(2, (0, y2 + 1)), (0, (1, 13)), (1, (0, 0)), (3, (0, 64))], [], w8) _
        refine e_Ok.run (t' := (5, [(2, (0, y2 + 1)), (0, (1, 13)), (1, (0, 0)), (3, (0, 64))], [], w8)) 1 rfl ?_
        refine e_Ok.sub kAlk (e_sub_of rfl ?_) (ih2 (y2 + 1) w8 ⟨f9, hT10, (fun i g1 g2 => by rw [← hw8]; by_cases e : i = y2; (rw [e, e_up_eq]); (rw [e_up_ne _ _ (Or.inr e)]; exact j5 i g1 (by omega))), by omega⟩ (by omega))
        exact ⟨rfl, rfl, rfl, rfl, trivial⟩
  refine e_Ok.sub kAlk (e_sub_of rfl ?_) (hL1 (64 + 1 : Int).toNat 0 w ⟨(e_fr.refl w), hT, (fun i g1 g2 => by omega), by omega⟩ (by omega))
  exact ⟨rfl, rfl, rfl, rfl, trivial⟩
theorem c_452_83 {d : Nat} {w : eW} (hT : e_Has kTy w) : e_Ok 20 elay kcode eI d 452 (0, [(0, (1, 83)), (1, (0, (-1)))], [], w) (fun r w' => r = [] ∧ e_fr kF83 w w' ∧ e_Has kTy w' ∧ (∀ k, 0 ≤ k → k < 8 → w' 83 k = (-1))) := by
  refine e_Ok.run (t' := (3, [(2, (0, 0)), (0, (1, 83)), (1, (0, (-1)))], [(1, 83)], w)) 3 rfl ?_
  refine e_Ok.alen rfl rfl rfl ?_
  refine e_Ok.run (t' := (5, [(3, (0, 8)), (2, (0, 0)), (0, (1, 83)), (1, (0, (-1)))], [], w)) 1 rfl ?_
  have hL1 : ∀ (nn : Nat) (y2 : Int) (v1 : eW), e_fr kF83 w v1 ∧ e_Has kTy v1 ∧ (∀ i, 0 ≤ i → i < y2 → v1 83 i = (-1)) ∧ (0 ≤ y2 ∧ y2 ≤ 8) → 8 - y2 < nn → e_Ok 20 elay kcode eI d 452 (5, [(0, (1, 83)), (1, (0, (-1))), (2, (0, y2)), (3, (0, 8))], [], v1) (fun r w' => r = [] ∧ e_fr kF83 w w' ∧ e_Has kTy w' ∧ (∀ k, 0 ≤ k → k < 8 → w' 83 k = (-1))) := by
    intro nn
    induction nn with
    | zero => intro y2 v1 hj hm; obtain ⟨j3, j4, j5, j6⟩ := hj; exfalso; omega
    | succ nn ih2 =>
      intro y2 v1 hj hm
      obtain ⟨j3, j4, j5, j6⟩ := hj
      refine e_Ok.run (t' := (7, [(0, (1, 83)), (1, (0, (-1))), (2, (0, y2)), (3, (0, 8))], [(0, 8), (0, y2)], v1)) 2 rfl ?_
      refine e_Ok.if2 rfl (fun h7 => ?_) (fun h7 => ?_)
      · replace h7 : (y2 : Int) ≥ 8 := h7
        refine e_Ok.rets rfl rfl ?_
        exact ⟨rfl, j3, j4, fun k g1 g2 => j5 k g1 (by omega)⟩
      · replace h7 : (y2 : Int) < 8 := by have q : ¬ ((y2 : Int) ≥ 8) := h7; omega
        refine e_Ok.run (t' := (13, [(0, (1, 83)), (1, (0, (-1))), (2, (0, y2)), (3, (0, 8))], [(0, (-1)), (0, y2), (1, 83)], v1)) 3 rfl ?_
        refine e_Ok.ast rfl (el_o rfl) rfl rfl (by omega) ?_
        generalize hw8 : e_up v1 83 y2 (-1) = w8
        have f9 : e_fr kF83 w w8 := e_fr.up j3 hw8 (by unfold kF83; omega)
        have hT10 : e_Has kTy w8 := e_Has.upr j4 hw8 rfl (by omega)
        refine e_Ok.inc (z := y2 + 1) rfl rfl (by omega) (by omega) ?_
        show e_Ok 20 elay kcode eI d 452 (17, [(2, (0, y2 + 1)), (0, (1, 83)), (1, (0, (-1))), (3, (0, 8))], [], w8) _
        refine e_Ok.run (t' := (5, [(2, (0, y2 + 1)), (0, (1, 83)), (1, (0, (-1))), (3, (0, 8))], [], w8)) 1 rfl ?_
        refine e_Ok.sub kAlk (e_sub_of rfl ?_) (ih2 (y2 + 1) w8 ⟨f9, hT10, (fun i g1 g2 => by rw [← hw8]; by_cases e : i = y2; (rw [e, e_up_eq]); (rw [e_up_ne _ _ (Or.inr e)]; exact j5 i g1 (by omega))), by omega⟩ (by omega))
        exact ⟨rfl, rfl, rfl, rfl, trivial⟩
  refine e_Ok.sub kAlk (e_sub_of rfl ?_) (hL1 (8 + 1 : Int).toNat 0 w ⟨(e_fr.refl w), hT, (fun i g1 g2 => by omega), by omega⟩ (by omega))
  exact ⟨rfl, rfl, rfl, rfl, trivial⟩
theorem c_452_72 {d : Nat} {w : eW} (hT : e_Has kTy w) : e_Ok 20 elay kcode eI d 452 (0, [(0, (1, 272)), (1, (0, 0))], [], w) (fun r w' => r = [] ∧ e_fr kF72 w w' ∧ e_Has kTy w' ∧ (∀ k, 0 ≤ k → k < 6 → w' 272 k = 0)) := by
  refine e_Ok.run (t' := (3, [(2, (0, 0)), (0, (1, 272)), (1, (0, 0))], [(1, 272)], w)) 3 rfl ?_
  refine e_Ok.alen rfl rfl rfl ?_
  refine e_Ok.run (t' := (5, [(3, (0, 6)), (2, (0, 0)), (0, (1, 272)), (1, (0, 0))], [], w)) 1 rfl ?_
  have hL1 : ∀ (nn : Nat) (y2 : Int) (v1 : eW), e_fr kF72 w v1 ∧ e_Has kTy v1 ∧ (∀ i, 0 ≤ i → i < y2 → v1 272 i = 0) ∧ (0 ≤ y2 ∧ y2 ≤ 6) → 6 - y2 < nn → e_Ok 20 elay kcode eI d 452 (5, [(0, (1, 272)), (1, (0, 0)), (2, (0, y2)), (3, (0, 6))], [], v1) (fun r w' => r = [] ∧ e_fr kF72 w w' ∧ e_Has kTy w' ∧ (∀ k, 0 ≤ k → k < 6 → w' 272 k = 0)) := by
    intro nn
    induction nn with
    | zero => intro y2 v1 hj hm; obtain ⟨j3, j4, j5, j6⟩ := hj; exfalso; omega
    | succ nn ih2 =>
      intro y2 v1 hj hm
      obtain ⟨j3, j4, j5, j6⟩ := hj
      refine e_Ok.run (t' := (7, [(0, (1, 272)), (1, (0, 0)), (2, (0, y2)), (3, (0, 6))], [(0, 6), (0, y2)], v1)) 2 rfl ?_
      refine e_Ok.if2 rfl (fun h7 => ?_) (fun h7 => ?_)
      · replace h7 : (y2 : Int) ≥ 6 := h7
        refine e_Ok.rets rfl rfl ?_
        exact ⟨rfl, j3, j4, fun k g1 g2 => j5 k g1 (by omega)⟩
      · replace h7 : (y2 : Int) < 6 := by have q : ¬ ((y2 : Int) ≥ 6) := h7; omega
        refine e_Ok.run (t' := (13, [(0, (1, 272)), (1, (0, 0)), (2, (0, y2)), (3, (0, 6))], [(0, 0), (0, y2), (1, 272)], v1)) 3 rfl ?_
        refine e_Ok.ast rfl (el_o rfl) rfl rfl (by omega) ?_
        generalize hw8 : e_up v1 272 y2 0 = w8
        have f9 : e_fr kF72 w w8 := e_fr.up j3 hw8 (by unfold kF72; omega)
        have hT10 : e_Has kTy w8 := e_Has.upr j4 hw8 rfl (by omega)
        refine e_Ok.inc (z := y2 + 1) rfl rfl (by omega) (by omega) ?_
        show e_Ok 20 elay kcode eI d 452 (17, [(2, (0, y2 + 1)), (0, (1, 272)), (1, (0, 0)), (3, (0, 6))], [], w8) _
        refine e_Ok.run (t' := (5, [(2, (0, y2 + 1)), (0, (1, 272)), (1, (0, 0)), (3, (0, 6))], [], w8)) 1 rfl ?_
        refine e_Ok.sub kAlk (e_sub_of rfl ?_) (ih2 (y2 + 1) w8 ⟨f9, hT10, (fun i g1 g2 => by rw [← hw8]; by_cases e : i = y2; (rw [e, e_up_eq]); (rw [e_up_ne _ _ (Or.inr e)]; exact j5 i g1 (by omega))), by omega⟩ (by omega))
        exact ⟨rfl, rfl, rfl, rfl, trivial⟩
  refine e_Ok.sub kAlk (e_sub_of rfl ?_) (hL1 (6 + 1 : Int).toNat 0 w ⟨(e_fr.refl w), hT, (fun i g1 g2 => by omega), by omega⟩ (by omega))
  exact ⟨rfl, rfl, rfl, rfl, trivial⟩
theorem c_452_93 {d : Nat} {w : eW} (hT : e_Has kTy w) {a : Int} (g_a : 0 ≤ a ∧ a ≤ 3) : e_Ok 20 elay kcode eI d 452 (0, [(0, (1, 17 * a + 93)), (1, (0, 0))], [], w) (fun r w' => r = [] ∧ e_fr (kF93 a) w w' ∧ e_Has kTy w' ∧ (∀ k, 0 ≤ k → k < 32 → w' (17 * a + 93) k = 0)) := by
  refine e_Ok.run (t' := (3, [(2, (0, 0)), (0, (1, 17 * a + 93)), (1, (0, 0))], [(1, 17 * a + 93)], w)) 3 rfl ?_
  refine e_Ok.alen rfl (lA7 (a := a) (by omega) (by omega)) rfl ?_
  refine e_Ok.run (t' := (5, [(3, (0, 32)), (2, (0, 0)), (0, (1, 17 * a + 93)), (1, (0, 0))], [], w)) 1 rfl ?_
  have hL1 : ∀ (nn : Nat) (y2 : Int) (v1 : eW), e_fr (kF93 a) w v1 ∧ e_Has kTy v1 ∧ (∀ i, 0 ≤ i → i < y2 → v1 (17 * a + 93) i = 0) ∧ (0 ≤ y2 ∧ y2 ≤ 32) → 32 - y2 < nn → e_Ok 20 elay kcode eI d 452 (5, [(0, (1, 17 * a + 93)), (1, (0, 0)), (2, (0, y2)), (3, (0, 32))], [], v1) (fun r w' => r = [] ∧ e_fr (kF93 a) w w' ∧ e_Has kTy w' ∧ (∀ k, 0 ≤ k → k < 32 → w' (17 * a + 93) k = 0)) := by
    intro nn
    induction nn with
    | zero => intro y2 v1 hj hm; obtain ⟨j3, j4, j5, j6⟩ := hj; exfalso; omega
    | succ nn ih2 =>
      intro y2 v1 hj hm
      obtain ⟨j3, j4, j5, j6⟩ := hj
      refine e_Ok.run (t' := (7, [(0, (1, 17 * a + 93)), (1, (0, 0)), (2, (0, y2)), (3, (0, 32))], [(0, 32), (0, y2)], v1)) 2 rfl ?_
      refine e_Ok.if2 rfl (fun h7 => ?_) (fun h7 => ?_)
      · replace h7 : (y2 : Int) ≥ 32 := h7
        refine e_Ok.rets rfl rfl ?_
        exact ⟨rfl, j3, j4, fun k g1 g2 => j5 k g1 (by omega)⟩
      · replace h7 : (y2 : Int) < 32 := by have q : ¬ ((y2 : Int) ≥ 32) := h7; omega
        refine e_Ok.run (t' := (13, [(0, (1, 17 * a + 93)), (1, (0, 0)), (2, (0, y2)), (3, (0, 32))], [(0, 0), (0, y2), (1, 17 * a + 93)], v1)) 3 rfl ?_
        refine e_Ok.ast rfl (lA7 (a := a) (by omega) (by omega)) rfl rfl (by omega) ?_
        generalize hw8 : e_up v1 (17 * a + 93) y2 0 = w8
        have f9 : e_fr (kF93 a) w w8 := e_fr.up j3 hw8 (by unfold kF93; omega)
        have hT10 : e_Has kTy w8 := e_Has.upr j4 hw8 (kA93 (a := a) _ (by omega) (by omega)) (by omega)
        refine e_Ok.inc (z := y2 + 1) rfl rfl (by omega) (by omega) ?_
        show e_Ok 20 elay kcode eI d 452 (17, [(2, (0, y2 + 1)), (0, (1, 17 * a + 93)), (1, (0, 0)), (3, (0, 32))], [], w8) _
        refine e_Ok.run (t' := (5, [(2, (0, y2 + 1)), (0, (1, 17 * a + 93)), (1, (0, 0)), (3, (0, 32))], [], w8)) 1 rfl ?_
        refine e_Ok.sub kAlk (e_sub_of rfl ?_) (ih2 (y2 + 1) w8 ⟨f9, hT10, (fun i g1 g2 => by rw [← hw8]; by_cases e : i = y2; (rw [e, e_up_eq]); (rw [e_up_ne _ _ (Or.inr e)]; exact j5 i g1 (by omega))), by omega⟩ (by omega))
        exact ⟨rfl, rfl, rfl, rfl, trivial⟩
  refine e_Ok.sub kAlk (e_sub_of rfl ?_) (hL1 (32 + 1 : Int).toNat 0 w ⟨(e_fr.refl w), hT, (fun i g1 g2 => by omega), by omega⟩ (by omega))
  exact ⟨rfl, rfl, rfl, rfl, trivial⟩
theorem c_26 {d : Nat} {w : eW} (hT : e_Has kTy w) : e_Ok 20 elay kcode eI d 26 (0, [(0, (1, 74))], [], w) (fun r w' => r = [] ∧ e_fr kCr w w' ∧ e_Has kTy w' ∧ cR0 w') := by
  refine e_Ok.run (t' := (2, [(0, (1, 74))], [(0, 0), (1, 74)], w)) 2 rfl ?_
  refine e_Ok.putf rfl (el_o rfl) rfl rfl ?_
  generalize hw1 : e_up w 74 0 0 = w1
  have f2 : e_fr kCr w w1 := e_fr.up (e_fr.refl w) hw1 (by unfold kCr; omega)
  have hT3 : e_Has kTy w1 := e_Has.upr hT hw1 rfl (by omega)
  refine e_Ok.run (t' := (7, [(0, (1, 74))], [(0, 0), (1, 74)], w1)) 2 rfl ?_
  refine e_Ok.putf rfl (el_o rfl) rfl rfl ?_
  generalize hw4 : e_up w1 74 1 0 = w4
  have f5 : e_fr kCr w w4 := e_fr.up f2 hw4 (by unfold kCr; omega)
  have hT6 : e_Has kTy w4 := e_Has.upr hT3 hw4 rfl (by omega)
  refine e_Ok.run (t' := (12, [(0, (1, 74))], [(0, 0), (1, 74)], w4)) 2 rfl ?_
  refine e_Ok.putb rfl (el_o rfl) rfl rfl (by omega) ?_
  generalize hw7 : e_up w4 74 3 0 = w7
  have f8 : e_fr kCr w w7 := e_fr.up f5 hw7 (by unfold kCr; omega)
  have hT9 : e_Has kTy w7 := e_Has.upr hT6 hw7 rfl (by omega)
  refine e_Ok.run (t' := (17, [(0, (1, 74))], [(0, 0), (1, 74)], w7)) 2 rfl ?_
  refine e_Ok.putf rfl (el_o rfl) rfl rfl ?_
  generalize hw10 : e_up w7 74 4 0 = w10
  have f11 : e_fr kCr w w10 := e_fr.up f8 hw10 (by unfold kCr; omega)
  have hT12 : e_Has kTy w10 := e_Has.upr hT9 hw10 rfl (by omega)
  refine e_Ok.run (t' := (22, [(0, (1, 74))], [(0, 0), (1, 74)], w10)) 2 rfl ?_
  refine e_Ok.putf rfl (el_o rfl) rfl rfl ?_
  generalize hw13 : e_up w10 74 5 0 = w13
  have f14 : e_fr kCr w w13 := e_fr.up f11 hw13 (by unfold kCr; omega)
  have hT15 : e_Has kTy w13 := e_Has.upr hT12 hw13 rfl (by omega)
  refine e_Ok.run (t' := (27, [(0, (1, 74))], [(0, 0), (1, 74)], w13)) 2 rfl ?_
  refine e_Ok.putf rfl (el_o rfl) rfl rfl ?_
  generalize hw16 : e_up w13 74 6 0 = w16
  have f17 : e_fr kCr w w16 := e_fr.up f14 hw16 (by unfold kCr; omega)
  have hT18 : e_Has kTy w16 := e_Has.upr hT15 hw16 rfl (by omega)
  refine e_Ok.run (t' := (32, [(0, (1, 74))], [(0, 0), (1, 74)], w16)) 2 rfl ?_
  refine e_Ok.putb rfl (el_o rfl) rfl rfl (by omega) ?_
  generalize hw19 : e_up w16 74 7 0 = w19
  have f20 : e_fr kCr w w19 := e_fr.up f17 hw19 (by unfold kCr; omega)
  have hT21 : e_Has kTy w19 := e_Has.upr hT18 hw19 rfl (by omega)
  refine e_Ok.run (t' := (37, [(1, (0, 0)), (0, (1, 74))], [], w19)) 2 rfl ?_
  have hL22 : ∀ (nn : Nat) (y1 : Int) (v1 : eW), e_fr kCr w v1 ∧ e_Has kTy v1 ∧ v1 74 0 = 0 ∧ v1 74 1 = 0 ∧ v1 74 3 = 0 ∧ v1 74 4 = 0 ∧ v1 74 5 = 0 ∧ v1 74 6 = 0 ∧ v1 74 7 = 0 ∧ (∀ i, 0 ≤ i → i < y1 → v1 78 i = 1 ∧ v1 79 i = 1 ∧ v1 80 i = 0 ∧ v1 81 i = 0) ∧ (0 ≤ y1 ∧ y1 ≤ 8) → 8 - y1 < nn → e_Ok 20 elay kcode eI d 26 (37, [(0, (1, 74)), (1, (0, y1))], [], v1) (fun r w' => r = [] ∧ e_fr kCr w w' ∧ e_Has kTy w' ∧ cR0 w') := by
    intro nn
    induction nn with
    | zero => intro y1 v1 hj hm; obtain ⟨j24, j25, j26, j27, j28, j29, j30, j31, j32, j33, j34⟩ := hj; exfalso; omega
    | succ nn ih23 =>
      intro y1 v1 hj hm
      obtain ⟨j24, j25, j26, j27, j28, j29, j30, j31, j32, j33, j34⟩ := hj
      refine e_Ok.run (t' := (40, [(0, (1, 74)), (1, (0, y1))], [(0, 8), (0, y1)], v1)) 2 rfl ?_
      refine e_Ok.if2 rfl (fun h35 => ?_) (fun h35 => ?_)
      · replace h35 : (y1 : Int) ≥ 8 := h35
        refine e_Ok.rets rfl rfl ?_
        exact ⟨rfl, j24, j25, ⟨⟨j26, j27, j28, j29, j30, j31, j32⟩, fun i g1 g2 => j33 i g1 (by omega)⟩⟩
      · replace h35 : (y1 : Int) < 8 := by have q : ¬ ((y1 : Int) ≥ 8) := h35; omega
        refine e_Ok.run (t' := (44, [(0, (1, 74)), (1, (0, y1))], [(1, 74)], v1)) 1 rfl ?_
        refine e_Ok.getr (z := 78) rfl (el_o rfl) rfl rfl ((j24 74 11 (by unfold kCr; omega)).trans (Eq.trans (e_Has.eq hT rfl) (by omega))) (by omega) ?_
        refine e_Ok.run (t' := (49, [(0, (1, 74)), (1, (0, y1))], [(0, 1), (0, y1), (1, 78)], v1)) 2 rfl ?_
        refine e_Ok.ast rfl (el_o rfl) rfl (e_nar_b (by omega)) (by omega) ?_
        generalize hw36 : e_up v1 78 y1 1 = w36
        have f37 : e_fr kCr w w36 := e_fr.up j24 hw36 (by unfold kCr; omega)
        have hT38 : e_Has kTy w36 := e_Has.upr j25 hw36 rfl (by omega)
        refine e_Ok.run (t' := (51, [(0, (1, 74)), (1, (0, y1))], [(1, 74)], w36)) 1 rfl ?_
        refine e_Ok.getr (z := 79) rfl (el_o rfl) rfl rfl (by rw [← hw36]; exact (e_up_ne _ _ (Or.inl (by omega))).trans ((j24 74 12 (by unfold kCr; omega)).trans (Eq.trans (e_Has.eq hT rfl) (by omega)))) (by omega) ?_
        refine e_Ok.run (t' := (56, [(0, (1, 74)), (1, (0, y1))], [(0, 1), (0, y1), (1, 79)], w36)) 2 rfl ?_
        refine e_Ok.ast rfl (el_o rfl) rfl (e_nar_b (by omega)) (by omega) ?_
        generalize hw40 : e_up w36 79 y1 1 = w40
        have f41 : e_fr kCr w w40 := e_fr.up f37 hw40 (by unfold kCr; omega)
        have hT42 : e_Has kTy w40 := e_Has.upr hT38 hw40 rfl (by omega)
        refine e_Ok.run (t' := (58, [(0, (1, 74)), (1, (0, y1))], [(1, 74)], w40)) 1 rfl ?_
        refine e_Ok.getr (z := 80) rfl (el_o rfl) rfl rfl (by rw [← hw40]; exact (e_up_ne _ _ (Or.inl (by omega))).trans (by rw [← hw36]; exact (e_up_ne _ _ (Or.inl (by omega))).trans ((j24 74 13 (by unfold kCr; omega)).trans (Eq.trans (e_Has.eq hT rfl) (by omega))))) (by omega) ?_
        refine e_Ok.run (t' := (63, [(0, (1, 74)), (1, (0, y1))], [(0, 0), (0, y1), (1, 80)], w40)) 2 rfl ?_
        refine e_Ok.ast rfl (el_o rfl) rfl (e_nar_b (by omega)) (by omega) ?_
        generalize hw43 : e_up w40 80 y1 0 = w43
        have f44 : e_fr kCr w w43 := e_fr.up f41 hw43 (by unfold kCr; omega)
        have hT45 : e_Has kTy w43 := e_Has.upr hT42 hw43 rfl (by omega)
        refine e_Ok.run (t' := (65, [(0, (1, 74)), (1, (0, y1))], [(1, 74)], w43)) 1 rfl ?_
        refine e_Ok.getr (z := 81) rfl (el_o rfl) rfl rfl (by rw [← hw43]; exact (e_up_ne _ _ (Or.inl (by omega))).trans (by rw [← hw40]; exact (e_up_ne _ _ (Or.inl (by omega))).trans (by rw [← hw36]; exact (e_up_ne _ _ (Or.inl (by omega))).trans ((j24 74 14 (by unfold kCr; omega)).trans (Eq.trans (e_Has.eq hT rfl) (by omega)))))) (by omega) ?_
        refine e_Ok.run (t' := (70, [(0, (1, 74)), (1, (0, y1))], [(0, 0), (0, y1), (1, 81)], w43)) 2 rfl ?_
        refine e_Ok.ast rfl (el_o rfl) rfl rfl (by omega) ?_
        generalize hw46 : e_up w43 81 y1 0 = w46
        have f47 : e_fr kCr w w46 := e_fr.up f44 hw46 (by unfold kCr; omega)
        have hT48 : e_Has kTy w46 := e_Has.upr hT45 hw46 rfl (by omega)
        refine e_Ok.inc (z := y1 + 1) rfl rfl (by omega) (by omega) ?_
        show e_Ok 20 elay kcode eI d 26 (74, [(1, (0, y1 + 1)), (0, (1, 74))], [], w46) _
        refine e_Ok.run (t' := (37, [(1, (0, y1 + 1)), (0, (1, 74))], [], w46)) 1 rfl ?_
        refine e_Ok.sub kAlk (e_sub_of rfl ?_) (ih23 (y1 + 1) w46 ⟨f47, hT48, (by rw [← hw46]; exact (e_up_ne _ _ (Or.inl (by omega))).trans (by rw [← hw43]; exact (e_up_ne _ _ (Or.inl (by omega))).trans (by rw [← hw40]; exact (e_up_ne _ _ (Or.inl (by omega))).trans (by rw [← hw36]; exact (e_up_ne _ _ (Or.inl (by omega))).trans j26)))), (by rw [← hw46]; exact (e_up_ne _ _ (Or.inl (by omega))).trans (by rw [← hw43]; exact (e_up_ne _ _ (Or.inl (by omega))).trans (by rw [← hw40]; exact (e_up_ne _ _ (Or.inl (by omega))).trans (by rw [← hw36]; exact (e_up_ne _ _ (Or.inl (by omega))).trans j27)))), (by rw [← hw46]; exact (e_up_ne _ _ (Or.inl (by omega))).trans (by rw [← hw43]; exact (e_up_ne _ _ (Or.inl (by omega))).trans (by rw [← hw40]; exact (e_up_ne _ _ (Or.inl (by omega))).trans (by rw [← hw36]; exact (e_up_ne _ _ (Or.inl (by omega))).trans j28)))), (by rw [← hw46]; exact (e_up_ne _ _ (Or.inl (by omega))).trans (by rw [← hw43]; exact (e_up_ne _ _ (Or.inl (by omega))).trans (by rw [← hw40]; exact (e_up_ne _ _ (Or.inl (by omega))).trans (by rw [← hw36]; exact (e_up_ne _ _ (Or.inl (by omega))).trans j29)))), (by rw [← hw46]; exact (e_up_ne _ _ (Or.inl (by omega))).trans (by rw [← hw43]; exact (e_up_ne _ _ (Or.inl (by omega))).trans (by rw [← hw40]; exact (e_up_ne _ _ (Or.inl (by omega))).trans (by rw [← hw36]; exact (e_up_ne _ _ (Or.inl (by omega))).trans j30)))), (by rw [← hw46]; exact (e_up_ne _ _ (Or.inl (by omega))).trans (by rw [← hw43]; exact (e_up_ne _ _ (Or.inl (by omega))).trans (by rw [← hw40]; exact (e_up_ne _ _ (Or.inl (by omega))).trans (by rw [← hw36]; exact (e_up_ne _ _ (Or.inl (by omega))).trans j31)))), (by rw [← hw46]; exact (e_up_ne _ _ (Or.inl (by omega))).trans (by rw [← hw43]; exact (e_up_ne _ _ (Or.inl (by omega))).trans (by rw [← hw40]; exact (e_up_ne _ _ (Or.inl (by omega))).trans (by rw [← hw36]; exact (e_up_ne _ _ (Or.inl (by omega))).trans j32)))), (fun i g1 g2 => by by_cases e : i = y1; (rw [e]; exact ⟨(by rw [← hw46]; exact (e_up_ne _ _ (Or.inl (by omega))).trans (by rw [← hw43]; exact (e_up_ne _ _ (Or.inl (by omega))).trans (by rw [← hw40]; exact (e_up_ne _ _ (Or.inl (by omega))).trans (by rw [← hw36]; exact e_up_eq _ _ _ _)))), (by rw [← hw46]; exact (e_up_ne _ _ (Or.inl (by omega))).trans (by rw [← hw43]; exact (e_up_ne _ _ (Or.inl (by omega))).trans (by rw [← hw40]; exact e_up_eq _ _ _ _))), (by rw [← hw46]; exact (e_up_ne _ _ (Or.inl (by omega))).trans (by rw [← hw43]; exact e_up_eq _ _ _ _)), (by rw [← hw46]; exact e_up_eq _ _ _ _)⟩); (have z := j33 i g1 (by omega); exact ⟨by rw [← hw46, e_up_ne _ _ (by omega), ← hw43, e_up_ne _ _ (by omega), ← hw40, e_up_ne _ _ (by omega), ← hw36, e_up_ne _ _ (by omega)]; exact z.1, by rw [← hw46, e_up_ne _ _ (by omega), ← hw43, e_up_ne _ _ (by omega), ← hw40, e_up_ne _ _ (by omega), ← hw36, e_up_ne _ _ (by omega)]; exact z.2.1, by rw [← hw46, e_up_ne _ _ (by omega), ← hw43, e_up_ne _ _ (by omega), ← hw40, e_up_ne _ _ (by omega), ← hw36, e_up_ne _ _ (by omega)]; exact z.2.2.1, by rw [← hw46, e_up_ne _ _ (by omega), ← hw43, e_up_ne _ _ (by omega), ← hw40, e_up_ne _ _ (by omega), ← hw36, e_up_ne _ _ (by omega)]; exact z.2.2.2⟩)), by omega⟩ (by omega))
        exact ⟨rfl, rfl, trivial⟩
  refine e_Ok.sub kAlk (e_sub_of rfl ?_) (hL22 (8 + 1 : Int).toNat 0 w19 ⟨f20, hT21, (by rw [← hw19]; exact (e_up_ne _ _ (Or.inr (by omega))).trans (by rw [← hw16]; exact (e_up_ne _ _ (Or.inr (by omega))).trans (by rw [← hw13]; exact (e_up_ne _ _ (Or.inr (by omega))).trans (by rw [← hw10]; exact (e_up_ne _ _ (Or.inr (by omega))).trans (by rw [← hw7]; exact (e_up_ne _ _ (Or.inr (by omega))).trans (by rw [← hw4]; exact (e_up_ne _ _ (Or.inr (by omega))).trans (by rw [← hw1]; exact e_up_eq _ _ _ _))))))), (by rw [← hw19]; exact (e_up_ne _ _ (Or.inr (by omega))).trans (by rw [← hw16]; exact (e_up_ne _ _ (Or.inr (by omega))).trans (by rw [← hw13]; exact (e_up_ne _ _ (Or.inr (by omega))).trans (by rw [← hw10]; exact (e_up_ne _ _ (Or.inr (by omega))).trans (by rw [← hw7]; exact (e_up_ne _ _ (Or.inr (by omega))).trans (by rw [← hw4]; exact e_up_eq _ _ _ _)))))), (by rw [← hw19]; exact (e_up_ne _ _ (Or.inr (by omega))).trans (by rw [← hw16]; exact (e_up_ne _ _ (Or.inr (by omega))).trans (by rw [← hw13]; exact (e_up_ne _ _ (Or.inr (by omega))).trans (by rw [← hw10]; exact (e_up_ne _ _ (Or.inr (by omega))).trans (by rw [← hw7]; exact e_up_eq _ _ _ _))))), (by rw [← hw19]; exact (e_up_ne _ _ (Or.inr (by omega))).trans (by rw [← hw16]; exact (e_up_ne _ _ (Or.inr (by omega))).trans (by rw [← hw13]; exact (e_up_ne _ _ (Or.inr (by omega))).trans (by rw [← hw10]; exact e_up_eq _ _ _ _)))), (by rw [← hw19]; exact (e_up_ne _ _ (Or.inr (by omega))).trans (by rw [← hw16]; exact (e_up_ne _ _ (Or.inr (by omega))).trans (by rw [← hw13]; exact e_up_eq _ _ _ _))), (by rw [← hw19]; exact (e_up_ne _ _ (Or.inr (by omega))).trans (by rw [← hw16]; exact e_up_eq _ _ _ _)), (by rw [← hw19]; exact e_up_eq _ _ _ _), (fun i g1 g2 => by omega), by omega⟩ (by omega))
  exact ⟨rfl, rfl, trivial⟩
theorem c_180_b {d : Nat} (hd : 21 ≤ d) {w : eW} (hT : e_Has kTy w) {t : Int} (gt : 0 ≤ t ∧ t ≤ 15) {op : Int → Int} {a p tk : Int} (ga : -1 ≤ a ∧ a ≤ 3) (gp : -2147483648 ≤ p ∧ p ≤ 2147483647) (gk : -2147483648 ≤ tk ∧ tk ≤ 2147483647) : e_Ok 20 elay kcode eI d 180 (0, [(0, (1, 6 * t + 154)), (1, (0, a)), (2, (0, p)), (3, (0, tk))], [], w) (fun r w' => r = [] ∧ e_fr (kBg t) w w' ∧ e_Has kTy w' ∧ (w' (6 * t + 154) 1 = 1 ∧ w' (6 * t + 154) 2 = a ∧ w' (6 * t + 154) 7 = tk ∧ w' (6 * t + 154) 10 = 0 ∧ w' (6 * t + 154) 11 = -1 ∧ w' (6 * t + 154) 5 = 0 ∧ w' (6 * t + 154) 6 = 0 ∧ w' (6 * t + 154) 14 = 0 ∧ w' (6 * t + 154) 15 = 0) ∧ w' (6 * t + 154) 4 = 1 ∧ w' (6 * t + 154) 3 = p) := by
  obtain ⟨d, rfl⟩ : ∃ e, d = e + 1 := ⟨d - 1, by omega⟩
  refine e_Ok.run (t' := (2, [(0, (1, 6 * t + 154)), (1, (0, a)), (2, (0, p)), (3, (0, tk))], [(0, 1), (1, 6 * t + 154)], w)) 2 rfl ?_
  refine e_Ok.putf rfl (lT0 (t := t) (by omega) (by omega)) rfl rfl ?_
  generalize hw1 : e_up w (6 * t + 154) 1 1 = w1
  have f2 : e_fr (kBg t) w w1 := e_fr.up (e_fr.refl w) hw1 (by unfold kBg; omega)
  have hT3 : e_Has kTy w1 := e_Has.upr hT hw1 (kT_1 (t := t) (by omega) (by omega)) (by omega)
  refine e_Ok.run (t' := (7, [(0, (1, 6 * t + 154)), (1, (0, a)), (2, (0, p)), (3, (0, tk))], [(0, a), (1, 6 * t + 154)], w1)) 2 rfl ?_
  refine e_Ok.putf rfl (lT0 (t := t) (by omega) (by omega)) rfl rfl ?_
  generalize hw4 : e_up w1 (6 * t + 154) 2 a = w4
  have f5 : e_fr (kBg t) w w4 := e_fr.up f2 hw4 (by unfold kBg; omega)
  have hT6 : e_Has kTy w4 := e_Has.upr hT3 hw4 (kT_2 (t := t) (by omega) (by omega)) (by omega)
  refine e_Ok.run (t' := (12, [(0, (1, 6 * t + 154)), (1, (0, a)), (2, (0, p)), (3, (0, tk))], [(0, tk), (1, 6 * t + 154)], w4)) 2 rfl ?_
  refine e_Ok.putf rfl (lT0 (t := t) (by omega) (by omega)) rfl rfl ?_
  generalize hw7 : e_up w4 (6 * t + 154) 7 tk = w7
  have f8 : e_fr (kBg t) w w7 := e_fr.up f5 hw7 (by unfold kBg; omega)
  have hT9 : e_Has kTy w7 := e_Has.upr hT6 hw7 (kT_7 (t := t) (by omega) (by omega)) (by omega)
  refine e_Ok.run (t' := (17, [(0, (1, 6 * t + 154)), (1, (0, a)), (2, (0, p)), (3, (0, tk))], [(0, 0), (1, 6 * t + 154)], w7)) 2 rfl ?_
  refine e_Ok.putf rfl (lT0 (t := t) (by omega) (by omega)) rfl rfl ?_
  generalize hw10 : e_up w7 (6 * t + 154) 5 0 = w10
  have f11 : e_fr (kBg t) w w10 := e_fr.up f8 hw10 (by unfold kBg; omega)
  have hT12 : e_Has kTy w10 := e_Has.upr hT9 hw10 (kT_5 (t := t) (by omega) (by omega)) (by omega)
  refine e_Ok.run (t' := (22, [(0, (1, 6 * t + 154)), (1, (0, a)), (2, (0, p)), (3, (0, tk))], [(0, 0), (1, 6 * t + 154)], w10)) 2 rfl ?_
  refine e_Ok.putf rfl (lT0 (t := t) (by omega) (by omega)) rfl rfl ?_
  generalize hw13 : e_up w10 (6 * t + 154) 6 0 = w13
  have f14 : e_fr (kBg t) w w13 := e_fr.up f11 hw13 (by unfold kBg; omega)
  have hT15 : e_Has kTy w13 := e_Has.upr hT12 hw13 (kT_6 (t := t) (by omega) (by omega)) (by omega)
  refine e_Ok.run (t' := (27, [(0, (1, 6 * t + 154)), (1, (0, a)), (2, (0, p)), (3, (0, tk))], [(0, 0), (1, 6 * t + 154)], w13)) 2 rfl ?_
  refine e_Ok.putb rfl (lT0 (t := t) (by omega) (by omega)) rfl rfl (by omega) ?_
  generalize hw16 : e_up w13 (6 * t + 154) 10 0 = w16
  have f17 : e_fr (kBg t) w w16 := e_fr.up f14 hw16 (by unfold kBg; omega)
  have hT18 : e_Has kTy w16 := e_Has.upr hT15 hw16 (kT_10 (t := t) (by omega) (by omega)) (by omega)
  refine e_Ok.run (t' := (32, [(0, (1, 6 * t + 154)), (1, (0, a)), (2, (0, p)), (3, (0, tk))], [(0, (-1)), (1, 6 * t + 154)], w16)) 2 rfl ?_
  refine e_Ok.putf rfl (lT0 (t := t) (by omega) (by omega)) rfl rfl ?_
  generalize hw19 : e_up w16 (6 * t + 154) 11 (-1) = w19
  have f20 : e_fr (kBg t) w w19 := e_fr.up f17 hw19 (by unfold kBg; omega)
  have hT21 : e_Has kTy w19 := e_Has.upr hT18 hw19 (kT_11 (t := t) (by omega) (by omega)) (by omega)
  refine e_Ok.run (t' := (37, [(0, (1, 6 * t + 154)), (1, (0, a)), (2, (0, p)), (3, (0, tk))], [(0, 0), (1, 6 * t + 154)], w19)) 2 rfl ?_
  refine e_Ok.putf rfl (lT0 (t := t) (by omega) (by omega)) rfl rfl ?_
  generalize hw22 : e_up w19 (6 * t + 154) 14 0 = w22
  have f23 : e_fr (kBg t) w w22 := e_fr.up f20 hw22 (by unfold kBg; omega)
  have hT24 : e_Has kTy w22 := e_Has.upr hT21 hw22 (kT_14 (t := t) (by omega) (by omega)) (by omega)
  refine e_Ok.run (t' := (42, [(0, (1, 6 * t + 154)), (1, (0, a)), (2, (0, p)), (3, (0, tk))], [(0, 0), (1, 6 * t + 154)], w22)) 2 rfl ?_
  refine e_Ok.putf rfl (lT0 (t := t) (by omega) (by omega)) rfl rfl ?_
  generalize hw25 : e_up w22 (6 * t + 154) 4 0 = w25
  have f26 : e_fr (kBg t) w w25 := e_fr.up f23 hw25 (by unfold kBg; omega)
  have hT27 : e_Has kTy w25 := e_Has.upr hT24 hw25 (kT_4 (t := t) (by omega) (by omega)) (by omega)
  refine e_Ok.run (t' := (47, [(0, (1, 6 * t + 154)), (1, (0, a)), (2, (0, p)), (3, (0, tk))], [(0, 0), (1, 6 * t + 154)], w25)) 2 rfl ?_
  refine e_Ok.putf rfl (lT0 (t := t) (by omega) (by omega)) rfl rfl ?_
  generalize hw28 : e_up w25 (6 * t + 154) 15 0 = w28
  have f29 : e_fr (kBg t) w w28 := e_fr.up f26 hw28 (by unfold kBg; omega)
  have hT30 : e_Has kTy w28 := e_Has.upr hT27 hw28 (kT_15 (t := t) (by omega) (by omega)) (by omega)
  refine e_Ok.run (t' := (52, [(0, (1, 6 * t + 154)), (1, (0, a)), (2, (0, p)), (3, (0, tk))], [(0, p), (1, 6 * t + 154)], w28)) 2 rfl ?_
  refine e_Ok.callV rfl (by omega) rfl (lT0 (t := t) (by omega) (by omega)) rfl rfl (c_182 (t := t) (op := op) hT30 (by omega) (by omega) ⟨0, ⟨by have e : w28 (6 * t + 154) 15 = 0 := (by rw [← hw28]; exact e_up_eq _ _ _ _); omega, fun i g1 g2 => by have e : w28 (6 * t + 154) 4 = 0 := (by rw [← hw28]; exact (e_up_ne _ _ (Or.inr (by omega))).trans (by rw [← hw25]; exact e_up_eq _ _ _ _)); omega, fun i g1 g2 => by omega⟩⟩ (fun g => by have e : w28 (6 * t + 154) 4 = 0 := (by rw [← hw28]; exact (e_up_ne _ _ (Or.inr (by omega))).trans (by rw [← hw25]; exact e_up_eq _ _ _ _)); omega)) (fun r31 w32 h33 => ?_)
  obtain ⟨z35, rfl, q34f, q34T, q34s, q34x⟩ := h33
  have f36 : e_fr (kBg t) w w32 := e_fr.trans f29 (e_fr.mono q34f (fun c k q => by unfold kEn at q; unfold kBg; omega))
  show e_Ok 20 elay kcode eI (d + 1) 180 (55, [(0, (1, 6 * t + 154)), (1, (0, a)), (2, (0, p)), (3, (0, tk))], [(0, z35)], w32) _
  refine e_Ok.run (t' := (56, [(0, (1, 6 * t + 154)), (1, (0, a)), (2, (0, p)), (3, (0, tk))], [], w32)) 1 rfl ?_
  refine e_Ok.rets rfl rfl ?_
  exact ⟨rfl, f36, q34T, ⟨((q34f (6 * t + 154) 1 (by unfold kEn; omega)).trans (by rw [← hw28]; exact (e_up_ne _ _ (Or.inr (by omega))).trans (by rw [← hw25]; exact (e_up_ne _ _ (Or.inr (by omega))).trans (by rw [← hw22]; exact (e_up_ne _ _ (Or.inr (by omega))).trans (by rw [← hw19]; exact (e_up_ne _ _ (Or.inr (by omega))).trans (by rw [← hw16]; exact (e_up_ne _ _ (Or.inr (by omega))).trans (by rw [← hw13]; exact (e_up_ne _ _ (Or.inr (by omega))).trans (by rw [← hw10]; exact (e_up_ne _ _ (Or.inr (by omega))).trans (by rw [← hw7]; exact (e_up_ne _ _ (Or.inr (by omega))).trans (by rw [← hw4]; exact (e_up_ne _ _ (Or.inr (by omega))).trans (by rw [← hw1]; exact e_up_eq _ _ _ _))))))))))), ((q34f (6 * t + 154) 2 (by unfold kEn; omega)).trans (by rw [← hw28]; exact (e_up_ne _ _ (Or.inr (by omega))).trans (by rw [← hw25]; exact (e_up_ne _ _ (Or.inr (by omega))).trans (by rw [← hw22]; exact (e_up_ne _ _ (Or.inr (by omega))).trans (by rw [← hw19]; exact (e_up_ne _ _ (Or.inr (by omega))).trans (by rw [← hw16]; exact (e_up_ne _ _ (Or.inr (by omega))).trans (by rw [← hw13]; exact (e_up_ne _ _ (Or.inr (by omega))).trans (by rw [← hw10]; exact (e_up_ne _ _ (Or.inr (by omega))).trans (by rw [← hw7]; exact (e_up_ne _ _ (Or.inr (by omega))).trans (by rw [← hw4]; exact e_up_eq _ _ _ _)))))))))), ((q34f (6 * t + 154) 7 (by unfold kEn; omega)).trans (by rw [← hw28]; exact (e_up_ne _ _ (Or.inr (by omega))).trans (by rw [← hw25]; exact (e_up_ne _ _ (Or.inr (by omega))).trans (by rw [← hw22]; exact (e_up_ne _ _ (Or.inr (by omega))).trans (by rw [← hw19]; exact (e_up_ne _ _ (Or.inr (by omega))).trans (by rw [← hw16]; exact (e_up_ne _ _ (Or.inr (by omega))).trans (by rw [← hw13]; exact (e_up_ne _ _ (Or.inr (by omega))).trans (by rw [← hw10]; exact (e_up_ne _ _ (Or.inr (by omega))).trans (by rw [← hw7]; exact e_up_eq _ _ _ _))))))))), ((q34f (6 * t + 154) 10 (by unfold kEn; omega)).trans (by rw [← hw28]; exact (e_up_ne _ _ (Or.inr (by omega))).trans (by rw [← hw25]; exact (e_up_ne _ _ (Or.inr (by omega))).trans (by rw [← hw22]; exact (e_up_ne _ _ (Or.inr (by omega))).trans (by rw [← hw19]; exact (e_up_ne _ _ (Or.inr (by omega))).trans (by rw [← hw16]; exact e_up_eq _ _ _ _)))))), ((q34f (6 * t + 154) 11 (by unfold kEn; omega)).trans (by rw [← hw28]; exact (e_up_ne _ _ (Or.inr (by omega))).trans (by rw [← hw25]; exact (e_up_ne _ _ (Or.inr (by omega))).trans (by rw [← hw22]; exact (e_up_ne _ _ (Or.inr (by omega))).trans (by rw [← hw19]; exact e_up_eq _ _ _ _))))), ((q34f (6 * t + 154) 5 (by unfold kEn; omega)).trans (by rw [← hw28]; exact (e_up_ne _ _ (Or.inr (by omega))).trans (by rw [← hw25]; exact (e_up_ne _ _ (Or.inr (by omega))).trans (by rw [← hw22]; exact (e_up_ne _ _ (Or.inr (by omega))).trans (by rw [← hw19]; exact (e_up_ne _ _ (Or.inr (by omega))).trans (by rw [← hw16]; exact (e_up_ne _ _ (Or.inr (by omega))).trans (by rw [← hw13]; exact (e_up_ne _ _ (Or.inr (by omega))).trans (by rw [← hw10]; exact e_up_eq _ _ _ _)))))))), ((q34f (6 * t + 154) 6 (by unfold kEn; omega)).trans (by rw [← hw28]; exact (e_up_ne _ _ (Or.inr (by omega))).trans (by rw [← hw25]; exact (e_up_ne _ _ (Or.inr (by omega))).trans (by rw [← hw22]; exact (e_up_ne _ _ (Or.inr (by omega))).trans (by rw [← hw19]; exact (e_up_ne _ _ (Or.inr (by omega))).trans (by rw [← hw16]; exact (e_up_ne _ _ (Or.inr (by omega))).trans (by rw [← hw13]; exact e_up_eq _ _ _ _))))))), ((q34f (6 * t + 154) 14 (by unfold kEn; omega)).trans (by rw [← hw28]; exact (e_up_ne _ _ (Or.inr (by omega))).trans (by rw [← hw25]; exact (e_up_ne _ _ (Or.inr (by omega))).trans (by rw [← hw22]; exact e_up_eq _ _ _ _)))), ((q34f (6 * t + 154) 15 (by unfold kEn; omega)).trans (by rw [← hw28]; exact e_up_eq _ _ _ _))⟩, (by rcases q34x with ⟨g1, g2, g3⟩ | ⟨g1, g2, g4⟩; (exact ⟨by rw [g2, show w28 (6 * t + 154) 4 = 0 from (by rw [← hw28]; exact (e_up_ne _ _ (Or.inr (by omega))).trans (by rw [← hw25]; exact e_up_eq _ _ _ _))]; rfl, g3⟩); (exfalso; rw [show w28 (6 * t + 154) 4 = 0 from (by rw [← hw28]; exact (e_up_ne _ _ (Or.inr (by omega))).trans (by rw [← hw25]; exact e_up_eq _ _ _ _))] at g4; omega))⟩
theorem c_179 {d : Nat} (hd : 22 ≤ d) {w : eW} (hT : e_Has kTy w) {t : Int} (gt : 0 ≤ t ∧ t ≤ 15) : e_Ok 20 elay kcode eI d 179 (0, [(0, (1, 6 * t + 154))], [], w) (fun r w' => r = [] ∧ e_fr (kTk t) w w' ∧ e_Has kTy w' ∧ tR0 w' t) := by
  obtain ⟨d, rfl⟩ : ∃ e, d = e + 1 := ⟨d - 1, by omega⟩
  refine e_Ok.run (t' := (4, [(0, (1, 6 * t + 154))], [(0, 0), (0, 0), (0, (-1)), (1, 6 * t + 154)], w)) 4 rfl ?_
  refine e_Ok.callV rfl (by omega) rfl (lT0 (t := t) (by omega) (by omega)) rfl rfl (c_180_b (op := fun _ => 0) (by omega) (t := t) hT (by omega) (by omega) (by omega) (by omega)) (fun r1 w2 h3 => ?_)
  obtain ⟨rfl, q4f, q4T, ⟨q41, q42, q47, q410, q411, q45, q46, q414, q415⟩, q44, q43⟩ := h3
  have f5 : e_fr (kTk t) w w2 := e_fr.trans (e_fr.refl w) (e_fr.mono q4f (fun c k q => by unfold kBg at q; unfold kTk; omega))
  show e_Ok 20 elay kcode eI (d + 1) 179 (7, [(0, (1, 6 * t + 154))], [], w2) _
  refine e_Ok.run (t' := (9, [(0, (1, 6 * t + 154))], [(0, 0), (1, 6 * t + 154)], w2)) 2 rfl ?_
  refine e_Ok.putf rfl (lT0 (t := t) (by omega) (by omega)) rfl rfl ?_
  generalize hw6 : e_up w2 (6 * t + 154) 1 0 = w6
  have f7 : e_fr (kTk t) w w6 := e_fr.up f5 hw6 (by unfold kTk; omega)
  have hT8 : e_Has kTy w6 := e_Has.upr q4T hw6 (kT_1 (t := t) (by omega) (by omega)) (by omega)
  refine e_Ok.run (t' := (14, [(0, (1, 6 * t + 154))], [(0, 0), (1, 6 * t + 154)], w6)) 2 rfl ?_
  refine e_Ok.putf rfl (lT0 (t := t) (by omega) (by omega)) rfl rfl ?_
  generalize hw9 : e_up w6 (6 * t + 154) 4 0 = w9
  have f10 : e_fr (kTk t) w w9 := e_fr.up f7 hw9 (by unfold kTk; omega)
  have hT11 : e_Has kTy w9 := e_Has.upr hT8 hw9 (kT_4 (t := t) (by omega) (by omega)) (by omega)
  refine e_Ok.rets rfl rfl ?_
  exact ⟨rfl, f10, hT11, ⟨⟨(by rw [← hw9]; exact (e_up_ne _ _ (Or.inr (by omega))).trans (by rw [← hw6]; exact e_up_eq _ _ _ _)), (by rw [← hw9]; exact (e_up_ne _ _ (Or.inr (by omega))).trans (by rw [← hw6]; exact (e_up_ne _ _ (Or.inr (by omega))).trans q42)), (by rw [← hw9]; exact (e_up_ne _ _ (Or.inr (by omega))).trans (by rw [← hw6]; exact (e_up_ne _ _ (Or.inr (by omega))).trans q43)), (by rw [← hw9]; exact e_up_eq _ _ _ _), (by rw [← hw9]; exact (e_up_ne _ _ (Or.inr (by omega))).trans (by rw [← hw6]; exact (e_up_ne _ _ (Or.inr (by omega))).trans q45)), (by rw [← hw9]; exact (e_up_ne _ _ (Or.inr (by omega))).trans (by rw [← hw6]; exact (e_up_ne _ _ (Or.inr (by omega))).trans q46))⟩, (by rw [← hw9]; exact (e_up_ne _ _ (Or.inr (by omega))).trans (by rw [← hw6]; exact (e_up_ne _ _ (Or.inr (by omega))).trans q47)), (by rw [← hw9]; exact (e_up_ne _ _ (Or.inr (by omega))).trans (by rw [← hw6]; exact (e_up_ne _ _ (Or.inr (by omega))).trans q410)), (by rw [← hw9]; exact (e_up_ne _ _ (Or.inr (by omega))).trans (by rw [← hw6]; exact (e_up_ne _ _ (Or.inr (by omega))).trans q411)), (by rw [← hw9]; exact (e_up_ne _ _ (Or.inr (by omega))).trans (by rw [← hw6]; exact (e_up_ne _ _ (Or.inr (by omega))).trans q414)), (by rw [← hw9]; exact (e_up_ne _ _ (Or.inr (by omega))).trans (by rw [← hw6]; exact (e_up_ne _ _ (Or.inr (by omega))).trans q415))⟩⟩
theorem c_35 {d : Nat} (hd : 23 ≤ d) {w : eW} (hT : e_Has kTy w) : e_Ok 20 elay kcode eI d 35 (0, [(0, (1, 8))], [], w) (fun r w' => r = [] ∧ e_fr kDr w w' ∧ e_Has kTy w' ∧ (∀ t, 0 ≤ t → t ≤ 15 → tR0 w' t) ∧ (∀ k, 0 ≤ k → k < 8 → w' 83 k = -1) ∧ w' 8 9 = 0) := by
  obtain ⟨d, rfl⟩ : ∃ e, d = e + 1 := ⟨d - 1, by omega⟩
  refine e_Ok.run (t' := (2, [(1, (0, 0)), (0, (1, 8))], [], w)) 2 rfl ?_
  have hL1 : ∀ (nn : Nat) (y1 : Int) (v1 : eW), e_fr kDr w v1 ∧ e_Has kTy v1 ∧ (∀ i, 0 ≤ i → i < y1 → tR0 v1 i) ∧ (0 ≤ y1 ∧ y1 ≤ 16) → 16 - y1 < nn → e_Ok 20 elay kcode eI (d + 1) 35 (2, [(0, (1, 8)), (1, (0, y1))], [], v1) (fun r w' => r = [] ∧ e_fr kDr w w' ∧ e_Has kTy w' ∧ (∀ t, 0 ≤ t → t ≤ 15 → tR0 w' t) ∧ (∀ k, 0 ≤ k → k < 8 → w' 83 k = -1) ∧ w' 8 9 = 0) := by
    intro nn
    induction nn with
    | zero => intro y1 v1 hj hm; obtain ⟨j3, j4, j5, j6⟩ := hj; exfalso; omega
    | succ nn ih2 =>
      intro y1 v1 hj hm
      obtain ⟨j3, j4, j5, j6⟩ := hj
      refine e_Ok.run (t' := (5, [(0, (1, 8)), (1, (0, y1))], [(0, 16), (0, y1)], v1)) 2 rfl ?_
      refine e_Ok.if2 rfl (fun h7 => ?_) (fun h7 => ?_)
      · replace h7 : (y1 : Int) ≥ 16 := h7
        refine e_Ok.run (t' := (24, [(0, (1, 8)), (1, (0, y1))], [(1, 8)], v1)) 1 rfl ?_
        refine e_Ok.getr (z := 83) rfl (el_o rfl) rfl rfl ((j3 8 5 (by unfold kDr; omega)).trans (Eq.trans (e_Has.eq hT rfl) (by omega))) (by omega) ?_
        refine e_Ok.run (t' := (28, [(0, (1, 8)), (1, (0, y1))], [(0, (-1)), (1, 83)], v1)) 1 rfl ?_
        refine e_Ok.callS rfl (by omega) rfl rfl (c_452_83 j4) (fun r8 w9 h10 => ?_)
        obtain ⟨rfl, q11f, q11T, q11x⟩ := h10
        have f12 : e_fr kDr w w9 := e_fr.trans j3 (e_fr.mono q11f (fun c k q => by unfold kF83 at q; unfold kDr; omega))
        show e_Ok 20 elay kcode eI (d + 1) 35 (31, [(0, (1, 8)), (1, (0, y1))], [], w9) _
        refine e_Ok.run (t' := (33, [(0, (1, 8)), (1, (0, y1))], [(0, 0), (1, 8)], w9)) 2 rfl ?_
        refine e_Ok.putf rfl (el_o rfl) rfl rfl ?_
        generalize hw13 : e_up w9 8 9 0 = w13
        have f14 : e_fr kDr w w13 := e_fr.up f12 hw13 (by unfold kDr; omega)
        have hT15 : e_Has kTy w13 := e_Has.upr q11T hw13 rfl (by omega)
        refine e_Ok.rets rfl rfl ?_
        exact ⟨rfl, f14, hT15, (fun t g1 g2 => ((j5 t g1 (by omega)).fr q11f (fun k => by unfold kF83; omega)).fr (S := fun c k => c = 8) (fun c k g => by rw [← hw13]; exact e_up_ne _ _ (Or.inl g)) (fun k => by omega)), (fun k g1 g2 => by rw [← hw13, e_up_ne _ _ (by omega)]; exact q11x k g1 g2), (by rw [← hw13]; exact e_up_eq _ _ _ _)⟩
      · replace h7 : (y1 : Int) < 16 := by have q : ¬ ((y1 : Int) ≥ 16) := h7; omega
        refine e_Ok.run (t' := (9, [(0, (1, 8)), (1, (0, y1))], [(1, 8)], v1)) 1 rfl ?_
        refine e_Ok.getr (z := 82) rfl (el_o rfl) rfl rfl ((j3 8 4 (by unfold kDr; omega)).trans (Eq.trans (e_Has.eq hT rfl) (by omega))) (by omega) ?_
        refine e_Ok.run (t' := (13, [(0, (1, 8)), (1, (0, y1))], [(0, y1), (1, 82)], v1)) 1 rfl ?_
        refine e_Ok.aald (z := 6 * y1 + 154) rfl (el_o rfl) rfl (by omega) ((j3 82 y1 (by unfold kDr; omega)).trans (Eq.trans (e_Has.eq hT (k82 (by omega))) (by omega))) (by omega) ?_
        refine e_Ok.callV rfl (by omega) rfl (lT0 (t := y1) (by omega) (by omega)) rfl rfl (c_179 (by omega) (t := y1) j4 (by omega)) (fun r16 w17 h18 => ?_)
        obtain ⟨rfl, q19f, q19T, q19x⟩ := h18
        have f20 : e_fr kDr w w17 := e_fr.trans j3 (e_fr.mono q19f (fun c k q => by unfold kTk at q; unfold kDr; omega))
        show e_Ok 20 elay kcode eI (d + 1) 35 (17, [(0, (1, 8)), (1, (0, y1))], [], w17) _
        refine e_Ok.inc (z := y1 + 1) rfl rfl (by omega) (by omega) ?_
        show e_Ok 20 elay kcode eI (d + 1) 35 (20, [(1, (0, y1 + 1)), (0, (1, 8))], [], w17) _
        refine e_Ok.run (t' := (2, [(1, (0, y1 + 1)), (0, (1, 8))], [], w17)) 1 rfl ?_
        refine e_Ok.sub kAlk (e_sub_of rfl ?_) (ih2 (y1 + 1) w17 ⟨f20, q19T, (fun i g1 g2 => by by_cases e : i = y1; (rw [e]; exact q19x); (exact (j5 i g1 (by omega)).fr q19f (fun k => by unfold kTk; omega))), by omega⟩ (by omega))
        exact ⟨rfl, rfl, trivial⟩
  refine e_Ok.sub kAlk (e_sub_of rfl ?_) (hL1 (16 + 1 : Int).toNat 0 w ⟨(e_fr.refl w), hT, (fun i g1 g2 => by omega), by omega⟩ (by omega))
  exact ⟨rfl, rfl, trivial⟩
theorem c_110 {d : Nat} (hd : 23 ≤ d) {w : eW} (hT : e_Has kTy w) : e_Ok 20 elay kcode eI d 110 (0, [(0, (1, 10))], [], w) (fun r w' => r = [] ∧ e_fr kPr w w' ∧ e_Has kTy w' ∧ ((∀ p, 0 ≤ p → p < 64 → w' 11 p = 0) ∧ (∀ p, 0 ≤ p → p < 64 → w' 16 p = 0) ∧ ∀ p, 0 ≤ p → p < 64 → w' 13 p = 0) ∧ ∀ V, vFx w V → pTo w → ∀ k, 0 ≤ k → k < 64 → w' 12 (w 18 k) = V (w 18 k)) := by
  obtain ⟨d, rfl⟩ : ∃ e, d = e + 1 := ⟨d - 1, by omega⟩
  refine e_Ok.run (t' := (1, [(0, (1, 10))], [(1, 10)], w)) 1 rfl ?_
  refine e_Ok.getr (z := 11) rfl (el_o rfl) rfl rfl (Eq.trans (e_Has.eq hT rfl) (by omega)) (by omega) ?_
  refine e_Ok.run (t' := (5, [(0, (1, 10))], [(0, 0), (1, 11)], w)) 1 rfl ?_
  refine e_Ok.callS rfl (by omega) rfl rfl (c_452_11 hT) (fun r1 w2 h3 => ?_)
  obtain ⟨rfl, q4f, q4T, q4x⟩ := h3
  have f5 : e_fr kPr w w2 := e_fr.trans (e_fr.refl w) (e_fr.mono q4f (fun c k q => by unfold kF11 at q; unfold kPr; omega))
  show e_Ok 20 elay kcode eI (d + 1) 110 (8, [(0, (1, 10))], [], w2) _
  refine e_Ok.run (t' := (10, [(1, (0, 0)), (0, (1, 10))], [], w2)) 2 rfl ?_
  have hL6 : ∀ (nn : Nat) (y1 : Int) (v1 : eW), e_fr kPr w v1 ∧ e_Has kTy v1 ∧ (∀ i, 0 ≤ i → i < 64 → v1 11 i = 0) ∧ (∀ i, 0 ≤ i → i < y1 → v1 16 i = 0) ∧ (0 ≤ y1 ∧ y1 ≤ 64) → 64 - y1 < nn → e_Ok 20 elay kcode eI (d + 1) 110 (10, [(0, (1, 10)), (1, (0, y1))], [], v1) (fun r w' => r = [] ∧ e_fr kPr w w' ∧ e_Has kTy w' ∧ ((∀ p, 0 ≤ p → p < 64 → w' 11 p = 0) ∧ (∀ p, 0 ≤ p → p < 64 → w' 16 p = 0) ∧ ∀ p, 0 ≤ p → p < 64 → w' 13 p = 0) ∧ ∀ V, vFx w V → pTo w → ∀ k, 0 ≤ k → k < 64 → w' 12 (w 18 k) = V (w 18 k)) := by
    intro nn
    induction nn with
    | zero => intro y1 v1 hj hm; obtain ⟨j8, j9, j10, j11, j12⟩ := hj; exfalso; omega
    | succ nn ih7 =>
      intro y1 v1 hj hm
      obtain ⟨j8, j9, j10, j11, j12⟩ := hj
      refine e_Ok.run (t' := (13, [(0, (1, 10)), (1, (0, y1))], [(0, 64), (0, y1)], v1)) 2 rfl ?_
      refine e_Ok.if2 rfl (fun h13 => ?_) (fun h13 => ?_)
      · replace h13 : (y1 : Int) ≥ 64 := h13
        refine e_Ok.run (t' := (30, [(0, (1, 10)), (1, (0, y1))], [(1, 10)], v1)) 1 rfl ?_
        refine e_Ok.callV rfl (by omega) rfl rfl rfl rfl (c_116 (by omega) j9 (fun p g1 g2 g3 => absurd (j11 p g1 (by omega)) g3)) (fun r14 w15 h16 => ?_)
        obtain ⟨rfl, q17f, q17T, q17x⟩ := h16
        have f18 : e_fr kPr w w15 := e_fr.trans j8 (e_fr.mono q17f (fun c k q => by unfold kSe at q; unfold kPr; omega))
        show e_Ok 20 elay kcode eI (d + 1) 110 (33, [(0, (1, 10)), (1, (0, y1))], [], w15) _
        refine e_Ok.run (t' := (34, [(0, (1, 10)), (1, (0, y1))], [(1, 10)], w15)) 1 rfl ?_
        refine e_Ok.getr (z := 13) rfl (el_o rfl) rfl rfl ((q17f 10 2 (by unfold kSe; omega)).trans ((j8 10 2 (by unfold kPr; omega)).trans (Eq.trans (e_Has.eq hT rfl) (by omega)))) (by omega) ?_
        refine e_Ok.run (t' := (38, [(0, (1, 10)), (1, (0, y1))], [(0, 0), (1, 13)], w15)) 1 rfl ?_
        refine e_Ok.callS rfl (by omega) rfl rfl (c_452_13 q17T) (fun r19 w20 h21 => ?_)
        obtain ⟨rfl, q22f, q22T, q22x⟩ := h21
        have f23 : e_fr kPr w w20 := e_fr.trans f18 (e_fr.mono q22f (fun c k q => by unfold kF13 at q; unfold kPr; omega))
        show e_Ok 20 elay kcode eI (d + 1) 110 (41, [(0, (1, 10)), (1, (0, y1))], [], w20) _
        refine e_Ok.rets rfl rfl ?_
        refine ⟨rfl, f23, q22T, ⟨(fun p g1 g2 => by rw [q22f _ _ (by unfold kF13; omega), q17f _ _ (by unfold kSe; omega)]; exact j10 p g1 g2), (fun p g1 g2 => by rw [q22f _ _ (by unfold kF13; omega), q17f _ _ (by unfold kSe; omega)]; exact j11 p g1 (by omega)), q22x⟩, fun V hV hP k g1 g2 => ?_⟩
        have eF : ∀ c k, c ≠ 11 → c ≠ 16 → c ≠ 12 → c ≠ 13 → v1 c k = w c k := fun c k g1 g2 g3 g4 => j8 c k (by unfold kPr; omega)
        rw [q22f _ _ (by unfold kF13; omega), ← eF 18 k (by decide) (by decide) (by decide) (by decide)]
        refine q17x V (hV.pFx (fun p => eF _ _ (by decide) (by decide) (by decide) (by decide)) (fun p => eF _ _ (by decide) (by decide) (by decide) (by decide)) j10 (fun p g1 g2 => j11 p g1 (by omega))) ?_ k g1 g2
        intro i g3 g4 g5
        rw [eF 18 i (by decide) (by decide) (by decide) (by decide), eF 15 _ (by decide) (by decide) (by decide) (by decide)] at g5 ⊢
        obtain ⟨j, hj1, hj2⟩ := hP i g3 g4 g5
        exact ⟨j, hj1, by rw [eF 18 j (by decide) (by decide) (by decide) (by decide)]; exact hj2⟩
      · replace h13 : (y1 : Int) < 64 := by have q : ¬ ((y1 : Int) ≥ 64) := h13; omega
        refine e_Ok.run (t' := (17, [(0, (1, 10)), (1, (0, y1))], [(1, 10)], v1)) 1 rfl ?_
        refine e_Ok.getr (z := 16) rfl (el_o rfl) rfl rfl ((j8 10 5 (by unfold kPr; omega)).trans (Eq.trans (e_Has.eq hT rfl) (by omega))) (by omega) ?_
        refine e_Ok.run (t' := (22, [(0, (1, 10)), (1, (0, y1))], [(0, 0), (0, y1), (1, 16)], v1)) 2 rfl ?_
        refine e_Ok.ast rfl (el_o rfl) rfl (e_nar_b (by omega)) (by omega) ?_
        generalize hw24 : e_up v1 16 y1 0 = w24
        have f25 : e_fr kPr w w24 := e_fr.up j8 hw24 (by unfold kPr; omega)
        have hT26 : e_Has kTy w24 := e_Has.upr j9 hw24 rfl (by omega)
        refine e_Ok.inc (z := y1 + 1) rfl rfl (by omega) (by omega) ?_
        show e_Ok 20 elay kcode eI (d + 1) 110 (26, [(1, (0, y1 + 1)), (0, (1, 10))], [], w24) _
        refine e_Ok.run (t' := (10, [(1, (0, y1 + 1)), (0, (1, 10))], [], w24)) 1 rfl ?_
        refine e_Ok.sub kAlk (e_sub_of rfl ?_) (ih7 (y1 + 1) w24 ⟨f25, hT26, (fun i g1 g2 => by rw [← hw24, e_up_ne _ _ (by omega)]; exact j10 i g1 g2), (fun i g1 g2 => by rw [← hw24]; by_cases e : i = y1; (rw [e, e_up_eq]); (rw [e_up_ne _ _ (Or.inr e)]; exact j11 i g1 (by omega))), by omega⟩ (by omega))
        exact ⟨rfl, rfl, trivial⟩
  refine e_Ok.sub kAlk (e_sub_of rfl ?_) (hL6 (64 + 1 : Int).toNat 0 w2 ⟨f5, q4T, q4x, (fun i g1 g2 => by omega), by omega⟩ (by omega))
  exact ⟨rfl, rfl, trivial⟩
end
