noncomputable section
/-! the class: the next move of a travel -/
def kGf (a : Int) (c k : Int) : Prop := (c = 17 * a + 86 ∧ ((11 ≤ k ∧ k ≤ 13) ∨ k = 18)) ∨ (17 * a + 97 ≤ c ∧ c ≤ 17 * a + 102 ∧ (k = 9 ∨ k = 10))
theorem dlt_add (s j x y : Int) : dlt s j (x + y) = dlt s j x + dlt s j y := by unfold dlt; split <;> (try split) <;> omega
theorem dlt_zero (s j : Int) : dlt s j 0 = 0 := by unfold dlt; split <;> (try split) <;> omega
/-- n steps alike from p on -/
theorem yP.run {w : eW} {a m y p n st wd : Int} {v : Int → Int} (h : yP w a m y p v) (hn : 0 ≤ n) (hl : p + n ≤ w 270 y) (hs : ∀ i, 0 ≤ i → i < n → w 269 (1000 * y + (p + i)) = st) (hw : w 271 y = wd) : yP w a m y (p + n) (fun j => v j + dlt st j (n * wd)) ∧ (1 ≤ n → ∀ j, 0 ≤ j → j < m → w (17 * a + j + 97) 1 ≤ v j + dlt st j (n * wd) ∧ v j + dlt st j (n * wd) ≤ w (17 * a + j + 97) 2) := by
  obtain ⟨N, h1, h2⟩ := h
  have key : ∀ i : Nat, (i : Int) ≤ n → ∀ j, 0 ≤ j → j < m → N (p + i) j = v j + dlt st j (i * wd) := by
    intro i
    induction i with
    | zero => intro _ j g1 g2; rw [show p + ((0 : Nat) : Int) = p by omega, h1 j g1 g2, show ((0 : Nat) : Int) * wd = 0 by simp, dlt_zero]; omega
    | succ i ih =>
      intro gi j g1 g2
      have g3 := h2 (p + i) (by omega) (by omega) j g1 g2
      rw [show p + ((i + 1 : Nat) : Int) = p + i + 1 by omega, g3.1, ih (by omega) j g1 g2, hs i (by omega) (by omega), hw, show ((i + 1 : Nat) : Int) * wd = i * wd + wd by rw [Int.natCast_add, Int.add_mul]; simp, dlt_add]
      omega
  have kn := key n.toNat (by omega)
  rw [show ((n.toNat : Nat) : Int) = n by omega] at kn
  refine ⟨⟨N, kn, fun k g1 g2 => h2 k (by omega) g2⟩, fun g j g1 g2 => ?_⟩
  rw [← kn j g1 g2]
  have g3 := (h2 (p + n - 1) (by omega) (by omega) j g1 g2).2
  rw [show p + n - 1 + 1 = p + n by omega] at g3
  exact g3
theorem gf_kBm {a c k : Int} (q : kBm a c k) : kGf a c k := by
  unfold kBm at q
  unfold kGf
  omega
set_option maxHeartbeats 4000000 in
theorem c_108 {d : Nat} (hd : 23 ≤ d) {w : eW} (hT : e_Has kTy w) {a y p : Int} (ga : 0 ≤ a ∧ a ≤ 3) (hY : w (17 * a + 86) 17 = y) (hP : w (17 * a + 86) 18 = p) (hy : 0 ≤ y → yD w (w (17 * a + 86) 8) y) (hp : 0 ≤ p → 0 ≤ y ∧ p ≤ w 270 y ∧ yP w a (w (17 * a + 86) 8) y p (fun j => w (17 * a + j + 97) 7)) (hr : ∀ j, 0 ≤ j → j < w (17 * a + 86) 8 → -100000 ≤ w (17 * a + j + 97) 7 ∧ w (17 * a + j + 97) 7 ≤ 100000) : e_Ok 20 elay kcode eI d 108 (0, [(0, (1, 262)), (1, (1, 17 * a + 86))], [], w) (fun r w' => ∃ z : Int, r = [(0, z)] ∧ e_fr (kGf a) w w' ∧ e_Has kTy w' ∧ ((z = 0 ∧ w' = w ∧ (p < 0 ∨ w 270 y ≤ p)) ∨ (z = 1 ∧ (w' (17 * a + 86) 11 = 1 ∧ kn1 (w' (17 * a + 86) 12)) ∧ (∀ j, 0 ≤ j → j < w (17 * a + 86) 8 → (w (17 * a + j + 97) 1 ≤ w' (17 * a + j + 97) 9 ∧ w' (17 * a + j + 97) 9 ≤ w (17 * a + j + 97) 2) ∧ kn1 (w' (17 * a + j + 97) 10)) ∧ 0 ≤ y ∧ 0 ≤ w' (17 * a + 86) 18 ∧ w' (17 * a + 86) 18 ≤ w 270 y ∧ yP w' a (w (17 * a + 86) 8) y (w' (17 * a + 86) 18) (fun j => w' (17 * a + j + 97) 9)))) := by
  obtain ⟨d, rfl⟩ : ∃ e, d = e + 1 := ⟨d - 1, by omega⟩
  have hjn := kn_joints hT (a := a) (by omega)
  have hyr := e_Has.get hT (c := 17 * a + 86) (k := 17) (lo := -1) (hi := 59) (kA_17 (a := a) rfl ga) (by decide)
  have hpr := e_Has.get hT (c := 17 * a + 86) (k := 18) (lo := -1) (hi := 1000) (kA_18 (a := a) rfl ga) (by decide)
  have hp0 : 0 ≤ p → 0 ≤ y ∧ p ≤ w 270 y := fun g => ⟨(hp g).1, (hp g).2.1⟩
  have hy0 : 0 ≤ y → 0 ≤ w 270 y ∧ w 270 y ≤ 1000 := fun g => (hy g).1
  refine e_Ok.run (t' := (1, [(0, (1, 262)), (1, (1, 17 * a + 86))], [(1, 17 * a + 86)], w)) 1 rfl ?_
  refine e_Ok.getf (z := p) rfl (lA0 (a := a) (by omega) (by omega)) rfl rfl hP (by omega) ?_
  refine e_Ok.if1 rfl (fun h1 => ?_) (fun h1 => ?_)
  · replace h1 : (p : Int) < 0 := h1
    refine e_Ok.run (t' := (23, [(0, (1, 262)), (1, (1, 17 * a + 86))], [(0, 0)], w)) 1 rfl ?_
    refine e_Ok.rets rfl rfl ?_
    exact ⟨_, rfl, e_fr.refl w, hT, Or.inl ⟨rfl, rfl, by omega⟩⟩
  · replace h1 : (p : Int) ≥ 0 := by have q : ¬ ((p : Int) < 0) := h1; omega
    refine e_Ok.run (t' := (8, [(0, (1, 262)), (1, (1, 17 * a + 86))], [(1, 17 * a + 86)], w)) 1 rfl ?_
    refine e_Ok.getf (z := p) rfl (lA0 (a := a) (by omega) (by omega)) rfl rfl hP (by omega) ?_
    refine e_Ok.run (t' := (13, [(0, (1, 262)), (1, (1, 17 * a + 86))], [(1, 17 * a + 86), (1, 262), (0, p)], w)) 2 rfl ?_
    refine e_Ok.getf (z := y) rfl (lA0 (a := a) (by omega) (by omega)) rfl rfl hY (by omega) ?_
    refine e_Ok.callV rfl (by omega) rfl rfl rfl rfl (c_95 (by omega) (m := w (17 * a + 86) 8) hT (by omega) hy) (fun r2 w3 h4 => ?_)
    obtain ⟨z5, rfl, rfl, q6r, q6x⟩ := h4
    show e_Ok 20 elay kcode eI (d + 1) 108 (19, [(0, (1, 262)), (1, (1, 17 * a + 86))], [(0, z5), (0, p)], w) _
    refine e_Ok.if2 rfl (fun h7 => ?_) (fun h7 => ?_)
    · replace h7 : (p : Int) < z5 := h7
      refine e_Ok.run (t' := (26, [(0, (1, 262)), (1, (1, 17 * a + 86))], [(1, 17 * a + 86), (1, 262)], w)) 2 rfl ?_
      refine e_Ok.getf (z := y) rfl (lA0 (a := a) (by omega) (by omega)) rfl rfl hY (by omega) ?_
      refine e_Ok.run (t' := (30, [(0, (1, 262)), (1, (1, 17 * a + 86))], [(1, 17 * a + 86), (0, y), (1, 262)], w)) 1 rfl ?_
      refine e_Ok.getf (z := p) rfl (lA0 (a := a) (by omega) (by omega)) rfl rfl hP (by omega) ?_
      refine e_Ok.callV rfl (by omega) rfl rfl rfl rfl (c_96 (by omega) (m := w (17 * a + 86) 8) hT (by omega) (by omega) hy (by omega)) (fun r8 w9 h10 => ?_)
      obtain ⟨z11, rfl, rfl, q12r, q12x⟩ := h10
      have hst : z11 = w 269 (1000 * y + p) ∧ 0 ≤ z11 ∧ z11 < 2 * w (17 * a + 86) 8 := q12x.1 (by omega) (by omega) (by omega)
      show e_Ok 20 elay kcode eI (d + 1) 108 (36, [(0, (1, 262)), (1, (1, 17 * a + 86))], [(0, z11)], w) _
      refine e_Ok.run (t' := (39, [(3, (0, 0)), (2, (0, z11)), (0, (1, 262)), (1, (1, 17 * a + 86))], [], w)) 3 rfl ?_
      have hL13 : ∀ (nn : Nat) (y3 : Int) (v1 : eW), e_fr (kGf a) w v1 ∧ e_Has kTy v1 ∧ (∀ c k, ¬ (c = 17 * a + 86 ∧ k = 18) → v1 c k = w c k) ∧ v1 (17 * a + 86) 18 = p + y3 ∧ p + y3 ≤ w 270 y ∧ (∀ i, 0 ≤ i → i < y3 → w 269 (1000 * y + (p + i)) = z11) ∧ (0 ≤ y3 ∧ y3 ≤ 1000) → 1000 - y3 < nn → e_Ok 20 elay kcode eI (d + 1) 108 (39, [(0, (1, 262)), (1, (1, 17 * a + 86)), (2, (0, z11)), (3, (0, y3))], [], v1) (fun r w' => ∃ z : Int, r = [(0, z)] ∧ e_fr (kGf a) w w' ∧ e_Has kTy w' ∧ ((z = 0 ∧ w' = w ∧ (p < 0 ∨ w 270 y ≤ p)) ∨ (z = 1 ∧ (w' (17 * a + 86) 11 = 1 ∧ kn1 (w' (17 * a + 86) 12)) ∧ (∀ j, 0 ≤ j → j < w (17 * a + 86) 8 → (w (17 * a + j + 97) 1 ≤ w' (17 * a + j + 97) 9 ∧ w' (17 * a + j + 97) 9 ≤ w (17 * a + j + 97) 2) ∧ kn1 (w' (17 * a + j + 97) 10)) ∧ 0 ≤ y ∧ 0 ≤ w' (17 * a + 86) 18 ∧ w' (17 * a + 86) 18 ≤ w 270 y ∧ yP w' a (w (17 * a + 86) 8) y (w' (17 * a + 86) 18) (fun j => w' (17 * a + j + 97) 9)))) := by
        intro nn
        induction nn with
        | zero => intro y3 v1 hj hm; obtain ⟨j15, j16, j17, j18, j19, j20, j21⟩ := hj; exfalso; omega
        | succ nn ih14 =>
          intro y3 v1 hj hm
          obtain ⟨j15, j16, j17, j18, j19, j20, j21⟩ := hj
          have l22 : v1 (17 * a + 86) 8 = w (17 * a + 86) 8 := j15 (17 * a + 86) 8 (by unfold kGf; omega)
          refine e_Ok.run (t' := (41, [(0, (1, 262)), (1, (1, 17 * a + 86)), (2, (0, z11)), (3, (0, y3))], [(1, 17 * a + 86), (1, 262)], v1)) 2 rfl ?_
          refine e_Ok.getf (z := y) rfl (lA0 (a := a) (by omega) (by omega)) rfl rfl ((j15 (17 * a + 86) 17 (by unfold kGf; omega)).trans hY) (by omega) ?_
          refine e_Ok.run (t' := (45, [(0, (1, 262)), (1, (1, 17 * a + 86)), (2, (0, z11)), (3, (0, y3))], [(1, 17 * a + 86), (0, y), (1, 262)], v1)) 1 rfl ?_
          refine e_Ok.getf (z := p + y3) rfl (lA0 (a := a) (by omega) (by omega)) rfl rfl j18 (by omega) ?_
          refine e_Ok.callV rfl (by omega) rfl rfl rfl rfl (c_96 (by omega) (m := w (17 * a + 86) 8) j16 (by omega) (by omega) (fun g => (hy g).eq (fun c k g1 g2 => j17 c k (by omega))) (by omega)) (fun r23 w24 h25 => ?_)
          obtain ⟨z26, rfl, rfl, q27r, q27x⟩ := h25
          have e270 : v1 270 y = w 270 y := j17 _ _ (by omega)
          have hz1 : p + y3 < w 270 y → z26 = w 269 (1000 * y + (p + y3)) := fun g => by have g2 := (q27x.1 (by omega) (by omega) (by omega)).1; rw [j17 _ _ (by omega)] at g2; exact g2
          have hz2 : w 270 y ≤ p + y3 → z26 = -1 := fun g => q27x.2 (by omega)
          clear q27x
          show e_Ok 20 elay kcode eI (d + 1) 108 (51, [(0, (1, 262)), (1, (1, 17 * a + 86)), (2, (0, z11)), (3, (0, y3))], [(0, z26)], v1) _
          refine e_Ok.run (t' := (52, [(0, (1, 262)), (1, (1, 17 * a + 86)), (2, (0, z11)), (3, (0, y3))], [(0, z11), (0, z26)], v1)) 1 rfl ?_
          refine e_Ok.if2 rfl (fun h28 => ?_) (fun h28 => ?_)
          · replace h28 : (z26 : Int) ≠ z11 := h28
            have hy3 : 1 ≤ y3 := by
              by_cases g : y3 = 0
              · exfalso; have g2 := hz1 (by omega); rw [g, show p + 0 = p by omega] at g2; omega
              · omega
            clear hz1 hz2
            refine e_Ok.run (t' := (81, [(4, (0, 0)), (0, (1, 262)), (1, (1, 17 * a + 86)), (2, (0, z11)), (3, (0, y3))], [], v1)) 2 rfl ?_
            have hL29 : ∀ (nn : Nat) (y4 : Int) (v2 : eW), e_fr (kGf a) w v2 ∧ e_Has kTy v2 ∧ (∀ c k, ¬ (c = 17 * a + 86 ∧ k = 18) → ¬ (17 * a + 97 ≤ c ∧ c ≤ 17 * a + 102 ∧ k = 9) → v2 c k = w c k) ∧ v2 (17 * a + 86) 18 = p + y3 ∧ (∀ j, 0 ≤ j → j < y4 → v2 (17 * a + j + 97) 9 = w (17 * a + j + 97) 7) ∧ y4 ≤ w (17 * a + 86) 8 ∧ (0 ≤ y4 ∧ y4 ≤ 6) → 6 - y4 < nn → e_Ok 20 elay kcode eI (d + 1) 108 (81, [(0, (1, 262)), (1, (1, 17 * a + 86)), (2, (0, z11)), (3, (0, y3)), (4, (0, y4))], [], v2) (fun r w' => ∃ z : Int, r = [(0, z)] ∧ e_fr (kGf a) w w' ∧ e_Has kTy w' ∧ ((z = 0 ∧ w' = w ∧ (p < 0 ∨ w 270 y ≤ p)) ∨ (z = 1 ∧ (w' (17 * a + 86) 11 = 1 ∧ kn1 (w' (17 * a + 86) 12)) ∧ (∀ j, 0 ≤ j → j < w (17 * a + 86) 8 → (w (17 * a + j + 97) 1 ≤ w' (17 * a + j + 97) 9 ∧ w' (17 * a + j + 97) 9 ≤ w (17 * a + j + 97) 2) ∧ kn1 (w' (17 * a + j + 97) 10)) ∧ 0 ≤ y ∧ 0 ≤ w' (17 * a + 86) 18 ∧ w' (17 * a + 86) 18 ≤ w 270 y ∧ yP w' a (w (17 * a + 86) 8) y (w' (17 * a + 86) 18) (fun j => w' (17 * a + j + 97) 9)))) := by
              intro nn
              induction nn with
              | zero => intro y4 v2 hj hm; obtain ⟨j31, j32, j33, j34, j35, j36, j37⟩ := hj; exfalso; omega
              | succ nn ih30 =>
                intro y4 v2 hj hm
                obtain ⟨j31, j32, j33, j34, j35, j36, j37⟩ := hj
                have l38 : v2 (17 * a + 86) 8 = w (17 * a + 86) 8 := j31 (17 * a + 86) 8 (by unfold kGf; omega)
                refine e_Ok.run (t' := (84, [(0, (1, 262)), (1, (1, 17 * a + 86)), (2, (0, z11)), (3, (0, y3)), (4, (0, y4))], [(1, 17 * a + 86), (0, y4)], v2)) 2 rfl ?_
                have h40 := (e_Has.get hT (c := 17 * a + 86) (k := 8) (lo := 0) (hi := 6) (kA_8 (a := a) (by omega) (by omega)) (by decide))
                refine e_Ok.getf (z := w (17 * a + 86) 8) rfl (lA0 (a := a) (by omega) (by omega)) rfl rfl ((j31 (17 * a + 86) 8 (by unfold kGf; omega)).trans rfl) (by omega) ?_
                refine e_Ok.if2 rfl (fun h41 => ?_) (fun h41 => ?_)
                · replace h41 : (y4 : Int) ≥ w (17 * a + 86) 8 := h41
                  have hwd := (hy (by omega)).2.1
                  have e271 : v2 271 y = w 271 y := j33 _ _ (by omega) (by omega)
                  have hmul : 0 ≤ y3 * w 271 y ∧ y3 * w 271 y ≤ 16000 := ⟨Int.mul_nonneg (by omega) (by omega), by have g := Int.mul_le_mul (show y3 ≤ 1000 by omega) (show w 271 y ≤ 16 by omega) (by omega) (by decide); omega⟩
                  refine e_Ok.run (t' := (118, [(0, (1, 262)), (1, (1, 17 * a + 86)), (2, (0, z11)), (3, (0, y3)), (4, (0, y4))], [(1, 262), (0, y3)], v2)) 2 rfl ?_
                  refine e_Ok.getr (z := 271) rfl (el_o rfl) rfl rfl ((j31 262 12 (by unfold kGf; omega)).trans (Eq.trans (e_Has.eq hT rfl) (by omega))) (by omega) ?_
                  refine e_Ok.run (t' := (122, [(0, (1, 262)), (1, (1, 17 * a + 86)), (2, (0, z11)), (3, (0, y3)), (4, (0, y4))], [(1, 17 * a + 86), (1, 271), (0, y3)], v2)) 1 rfl ?_
                  refine e_Ok.getf (z := y) rfl (lA0 (a := a) (by omega) (by omega)) rfl rfl ((j31 (17 * a + 86) 17 (by unfold kGf; omega)).trans hY) (by omega) ?_
                  refine e_Ok.ald (z := w 271 y) rfl (el_o rfl) rfl (by omega) ((j31 271 y (by unfold kGf; omega)).trans rfl) (by omega) ?_
                  refine e_Ok.mul (z := y3 * (w 271 y)) rfl (by omega) (by omega) ?_
                  generalize hfr : y3 * (w 271 y) = fr at hmul ⊢
                  refine e_Ok.run (t' := (130, [(4, (0, fr)), (0, (1, 262)), (1, (1, 17 * a + 86)), (2, (0, z11)), (3, (0, y3))], [(1, 17 * a + 86)], v2)) 2 rfl ?_
                  refine e_Ok.getr (z := 17 * a + 87) rfl (lA0 (a := a) (by omega) (by omega)) rfl rfl ((j31 (17 * a + 86) 0 (by unfold kGf; omega)).trans (Eq.trans (e_Has.eq hT (kA_0 (a := a) (by omega) (by omega))) (by omega))) (by omega) ?_
                  refine e_Ok.run (t' := (135, [(4, (0, fr)), (0, (1, 262)), (1, (1, 17 * a + 86)), (2, (0, z11)), (3, (0, y3))], [(0, 2), (0, z11), (1, 17 * a + 87)], v2)) 2 rfl ?_
                  refine e_Ok.divn (fun z42 hz42 => ?_) rfl (by omega) (by omega)
                  replace hz42 : z42 = z11 / 2 := hz42
                  have z42r : 0 ≤ z42 ∧ z42 ≤ 5 := by omega
                  refine e_Ok.aald (z := 17 * a + z42 + 97) rfl (lA1 (a := a) (by omega) (by omega)) rfl (by omega) ((j31 (17 * a + 87) z42 (by unfold kGf; omega)).trans (Eq.trans (e_Has.eq hT (kA87 (a := a) (by omega) (by omega) (by omega))) (by omega))) (by omega) ?_
                  refine e_Ok.run (t' := (138, [(4, (0, fr)), (0, (1, 262)), (1, (1, 17 * a + 86)), (2, (0, z11)), (3, (0, y3))], [(1, 17 * a + z42 + 97), (1, 17 * a + z42 + 97)], v2)) 1 rfl ?_
                  have hgz := j35 z42 (by omega) (by omega)
                  have hrz := hr z42 (by omega) (by omega)
                  refine e_Ok.getf (z := w (17 * a + z42 + 97) 7) rfl (lJ (a := a) (j := z42) (by omega) (by omega) (by omega)) rfl rfl hgz (by omega) ?_
                  refine e_Ok.run (t' := (143, [(4, (0, fr)), (0, (1, 262)), (1, (1, 17 * a + 86)), (2, (0, z11)), (3, (0, y3))], [(0, 2), (0, z11), (0, w (17 * a + z42 + 97) 7), (1, 17 * a + z42 + 97)], v2)) 2 rfl ?_
                  refine e_Ok.remn (fun z43 hz43 => ?_) rfl (by omega) (by omega)
                  replace hz43 : z43 = z11 % 2 := hz43
                  have z43r : 0 ≤ z43 ∧ z43 ≤ 1 := by omega
                  refine e_Ok.if1 rfl (fun h44 => ?_) (fun h44 => ?_)
                  · replace h44 : (z43 : Int) ≠ 0 := h44
                    refine e_Ok.run (t' := (154, [(4, (0, fr)), (0, (1, 262)), (1, (1, 17 * a + 86)), (2, (0, z11)), (3, (0, y3))], [(0, fr), (0, w (17 * a + z42 + 97) 7), (1, 17 * a + z42 + 97)], v2)) 1 rfl ?_
                    refine e_Ok.neg (z := -fr) rfl (by omega) (by omega) ?_
                    refine e_Ok.add (z := w (17 * a + z42 + 97) 7 - fr) rfl (by omega) (by omega) ?_
                    refine e_Ok.putf rfl (lJ (a := a) (j := z42) (by omega) (by omega) (by omega)) rfl rfl ?_
                    generalize hw45 : e_up v2 (17 * a + z42 + 97) 9 (w (17 * a + z42 + 97) 7 - fr) = w45
                    have f46 : e_fr (kGf a) w w45 := e_fr.up j31 hw45 (by unfold kGf; omega)
                    have l47 : w45 (17 * a + 86) 8 = w (17 * a + 86) 8 := f46 (17 * a + 86) 8 (by unfold kGf; omega)
                    have hT48 : e_Has kTy w45 := e_Has.upr j32 hw45 (kJ_9 (a := a) (j := z42) (by omega) (by omega) (by omega)) (by omega)
                    refine e_Ok.run (t' := (161, [(4, (0, fr)), (0, (1, 262)), (1, (1, 17 * a + 86)), (2, (0, z11)), (3, (0, y3))], [(0, (-1)), (1, 17 * a + 86)], w45)) 2 rfl ?_
                    refine e_Ok.callV rfl (by omega) rfl (lA0 (a := a) (by omega) (by omega)) rfl rfl (c_13 (a := a) hT48 (by omega) (by omega)) (fun r49 w50 h51 => ?_)
                    obtain ⟨rfl, q52f, q52T, q52x⟩ := h51
                    have f53 : e_fr (kGf a) w w50 := e_fr.trans f46 (e_fr.mono q52f (fun c k q => by exact gf_kBm q))
                    have l54 : w50 (17 * a + 86) 8 = w (17 * a + 86) 8 := f53 (17 * a + 86) 8 (by unfold kGf; omega)
                    show e_Ok 20 elay kcode eI (d + 1) 108 (164, [(4, (0, fr)), (0, (1, 262)), (1, (1, 17 * a + 86)), (2, (0, z11)), (3, (0, y3))], [], w50) _
                    refine e_Ok.run (t' := (165, [(4, (0, fr)), (0, (1, 262)), (1, (1, 17 * a + 86)), (2, (0, z11)), (3, (0, y3))], [(0, 1)], w50)) 1 rfl ?_
                    refine e_Ok.rets rfl rfl ?_
                    have hrun := (hp (by omega)).2.2.run (n := y3) (by omega) (by omega) j20 rfl
                    have eg : ∀ j, 0 ≤ j → j < w (17 * a + 86) 8 → w50 (17 * a + j + 97) 9 = w (17 * a + j + 97) 7 + dlt z11 j (y3 * w 271 y) := fun j g1 g2 => by
                      rw [q52f _ _ (by unfold kBm; omega), ← hw45]
                      by_cases e : j = z42
                      · rw [e, e_up_eq]; unfold dlt; split
                        · omega
                        · split <;> omega
                      · rw [e_up_ne _ _ (by omega), j35 j g1 (by omega)]; unfold dlt; rw [if_neg (by omega), if_neg (by omega)]; omega
                    have eo : ∀ c k, ¬ (c = 17 * a + 86 ∧ ((11 ≤ k ∧ k ≤ 13) ∨ k = 18)) → ¬ (17 * a + 97 ≤ c ∧ c ≤ 17 * a + 102 ∧ (k = 9 ∨ k = 10)) → w50 c k = w c k := fun c k g1 g2 => by rw [q52f c k (by unfold kBm; omega), ← hw45, e_up_ne _ _ (by omega)]; exact j33 c k (by omega) (by omega)
                    have e18 : w50 (17 * a + 86) 18 = p + y3 := by rw [q52f _ _ (by unfold kBm; omega), ← hw45, e_up_ne _ _ (by omega)]; exact j34
                    have e8 : w45 (17 * a + 86) 8 = w (17 * a + 86) 8 := by rw [← hw45, e_up_ne _ _ (by omega)]; exact j33 _ _ (by omega) (by omega)
                    exact ⟨_, rfl, f53, q52T, Or.inr ⟨rfl, ⟨q52x.1.1, by rw [q52x.1.2.1]; unfold kn1; decide⟩, fun j g1 g2 => ⟨by rw [eg j g1 g2]; exact hrun.2 hy3 j g1 g2, q52x.2 j g1 (by omega)⟩, by omega, by omega, by omega, by rw [e18]; exact hrun.1.eq (fun c k g1 g2 => eo c k (by omega) (by omega)) (fun j g1 g2 => ⟨eo _ _ (by omega) (by omega), eo _ _ (by omega) (by omega)⟩) (fun j g1 g2 => eg j g1 g2)⟩⟩
                  · replace h44 : (z43 : Int) = 0 := by have q : ¬ ((z43 : Int) ≠ 0) := h44; omega
                    refine e_Ok.run (t' := (155, [(4, (0, fr)), (0, (1, 262)), (1, (1, 17 * a + 86)), (2, (0, z11)), (3, (0, y3))], [(0, fr), (0, w (17 * a + z42 + 97) 7), (1, 17 * a + z42 + 97)], v2)) 2 rfl ?_
                    refine e_Ok.add (z := w (17 * a + z42 + 97) 7 + fr) rfl (by omega) (by omega) ?_
                    refine e_Ok.putf rfl (lJ (a := a) (j := z42) (by omega) (by omega) (by omega)) rfl rfl ?_
                    generalize hw55 : e_up v2 (17 * a + z42 + 97) 9 (w (17 * a + z42 + 97) 7 + fr) = w55
                    have f56 : e_fr (kGf a) w w55 := e_fr.up j31 hw55 (by unfold kGf; omega)
                    have l57 : w55 (17 * a + 86) 8 = w (17 * a + 86) 8 := f56 (17 * a + 86) 8 (by unfold kGf; omega)
                    have hT58 : e_Has kTy w55 := e_Has.upr j32 hw55 (kJ_9 (a := a) (j := z42) (by omega) (by omega) (by omega)) (by omega)
                    refine e_Ok.run (t' := (161, [(4, (0, fr)), (0, (1, 262)), (1, (1, 17 * a + 86)), (2, (0, z11)), (3, (0, y3))], [(0, (-1)), (1, 17 * a + 86)], w55)) 2 rfl ?_
                    refine e_Ok.callV rfl (by omega) rfl (lA0 (a := a) (by omega) (by omega)) rfl rfl (c_13 (a := a) hT58 (by omega) (by omega)) (fun r59 w60 h61 => ?_)
                    obtain ⟨rfl, q62f, q62T, q62x⟩ := h61
                    have f63 : e_fr (kGf a) w w60 := e_fr.trans f56 (e_fr.mono q62f (fun c k q => by exact gf_kBm q))
                    have l64 : w60 (17 * a + 86) 8 = w (17 * a + 86) 8 := f63 (17 * a + 86) 8 (by unfold kGf; omega)
                    show e_Ok 20 elay kcode eI (d + 1) 108 (164, [(4, (0, fr)), (0, (1, 262)), (1, (1, 17 * a + 86)), (2, (0, z11)), (3, (0, y3))], [], w60) _
                    refine e_Ok.run (t' := (165, [(4, (0, fr)), (0, (1, 262)), (1, (1, 17 * a + 86)), (2, (0, z11)), (3, (0, y3))], [(0, 1)], w60)) 1 rfl ?_
                    refine e_Ok.rets rfl rfl ?_
                    have hrun := (hp (by omega)).2.2.run (n := y3) (by omega) (by omega) j20 rfl
                    have eg : ∀ j, 0 ≤ j → j < w (17 * a + 86) 8 → w60 (17 * a + j + 97) 9 = w (17 * a + j + 97) 7 + dlt z11 j (y3 * w 271 y) := fun j g1 g2 => by
                      rw [q62f _ _ (by unfold kBm; omega), ← hw55]
                      by_cases e : j = z42
                      · rw [e, e_up_eq]; unfold dlt; split
                        · omega
                        · split <;> omega
                      · rw [e_up_ne _ _ (by omega), j35 j g1 (by omega)]; unfold dlt; rw [if_neg (by omega), if_neg (by omega)]; omega
                    have eo : ∀ c k, ¬ (c = 17 * a + 86 ∧ ((11 ≤ k ∧ k ≤ 13) ∨ k = 18)) → ¬ (17 * a + 97 ≤ c ∧ c ≤ 17 * a + 102 ∧ (k = 9 ∨ k = 10)) → w60 c k = w c k := fun c k g1 g2 => by rw [q62f c k (by unfold kBm; omega), ← hw55, e_up_ne _ _ (by omega)]; exact j33 c k (by omega) (by omega)
                    have e18 : w60 (17 * a + 86) 18 = p + y3 := by rw [q62f _ _ (by unfold kBm; omega), ← hw55, e_up_ne _ _ (by omega)]; exact j34
                    have e8 : w55 (17 * a + 86) 8 = w (17 * a + 86) 8 := by rw [← hw55, e_up_ne _ _ (by omega)]; exact j33 _ _ (by omega) (by omega)
                    exact ⟨_, rfl, f63, q62T, Or.inr ⟨rfl, ⟨q62x.1.1, by rw [q62x.1.2.1]; unfold kn1; decide⟩, fun j g1 g2 => ⟨by rw [eg j g1 g2]; exact hrun.2 hy3 j g1 g2, q62x.2 j g1 (by omega)⟩, by omega, by omega, by omega, by rw [e18]; exact hrun.1.eq (fun c k g1 g2 => eo c k (by omega) (by omega)) (fun j g1 g2 => ⟨eo _ _ (by omega) (by omega), eo _ _ (by omega) (by omega)⟩) (fun j g1 g2 => eg j g1 g2)⟩⟩
                · replace h41 : (y4 : Int) < w (17 * a + 86) 8 := by have q : ¬ ((y4 : Int) ≥ w (17 * a + 86) 8) := h41; omega
                  refine e_Ok.run (t' := (91, [(0, (1, 262)), (1, (1, 17 * a + 86)), (2, (0, z11)), (3, (0, y3)), (4, (0, y4))], [(1, 17 * a + 86)], v2)) 1 rfl ?_
                  refine e_Ok.getr (z := 17 * a + 87) rfl (lA0 (a := a) (by omega) (by omega)) rfl rfl ((j31 (17 * a + 86) 0 (by unfold kGf; omega)).trans (Eq.trans (e_Has.eq hT (kA_0 (a := a) (by omega) (by omega))) (by omega))) (by omega) ?_
                  refine e_Ok.run (t' := (96, [(0, (1, 262)), (1, (1, 17 * a + 86)), (2, (0, z11)), (3, (0, y3)), (4, (0, y4))], [(0, y4), (1, 17 * a + 87)], v2)) 1 rfl ?_
                  refine e_Ok.aald (z := 17 * a + y4 + 97) rfl (lA1 (a := a) (by omega) (by omega)) rfl (by omega) ((j31 (17 * a + 87) y4 (by unfold kGf; omega)).trans (Eq.trans (e_Has.eq hT (kA87 (a := a) (by omega) (by omega) (by omega))) (by omega))) (by omega) ?_
                  refine e_Ok.run (t' := (98, [(0, (1, 262)), (1, (1, 17 * a + 86)), (2, (0, z11)), (3, (0, y3)), (4, (0, y4))], [(1, 17 * a + 86), (1, 17 * a + y4 + 97)], v2)) 1 rfl ?_
                  refine e_Ok.getr (z := 17 * a + 87) rfl (lA0 (a := a) (by omega) (by omega)) rfl rfl ((j31 (17 * a + 86) 0 (by unfold kGf; omega)).trans (Eq.trans (e_Has.eq hT (kA_0 (a := a) (by omega) (by omega))) (by omega))) (by omega) ?_
                  refine e_Ok.run (t' := (103, [(0, (1, 262)), (1, (1, 17 * a + 86)), (2, (0, z11)), (3, (0, y3)), (4, (0, y4))], [(0, y4), (1, 17 * a + 87), (1, 17 * a + y4 + 97)], v2)) 1 rfl ?_
                  refine e_Ok.aald (z := 17 * a + y4 + 97) rfl (lA1 (a := a) (by omega) (by omega)) rfl (by omega) ((j31 (17 * a + 87) y4 (by unfold kGf; omega)).trans (Eq.trans (e_Has.eq hT (kA87 (a := a) (by omega) (by omega) (by omega))) (by omega))) (by omega) ?_
                  have h65 := (e_Has.get hT (c := 17 * a + y4 + 97) (k := 7) (lo := (-2147483648)) (hi := 2147483647) (kJ_7 (a := a) (j := y4) (by omega) (by omega) (by omega)) (by decide))
                  refine e_Ok.getf (z := w (17 * a + y4 + 97) 7) rfl (lJ (a := a) (j := y4) (by omega) (by omega) (by omega)) rfl rfl ((j31 (17 * a + y4 + 97) 7 (by unfold kGf; omega)).trans rfl) (by omega) ?_
                  refine e_Ok.putf rfl (lJ (a := a) (j := y4) (by omega) (by omega) (by omega)) rfl rfl ?_
                  generalize hw66 : e_up v2 (17 * a + y4 + 97) 9 (w (17 * a + y4 + 97) 7) = w66
                  have f67 : e_fr (kGf a) w w66 := e_fr.up j31 hw66 (by unfold kGf; omega)
                  have l68 : w66 (17 * a + 86) 8 = w (17 * a + 86) 8 := f67 (17 * a + 86) 8 (by unfold kGf; omega)
                  have hT69 : e_Has kTy w66 := e_Has.upr j32 hw66 (kJ_9 (a := a) (j := y4) (by omega) (by omega) (by omega)) (by omega)
                  refine e_Ok.inc (z := y4 + 1) rfl rfl (by omega) (by omega) ?_
                  show e_Ok 20 elay kcode eI (d + 1) 108 (113, [(4, (0, y4 + 1)), (0, (1, 262)), (1, (1, 17 * a + 86)), (2, (0, z11)), (3, (0, y3))], [], w66) _
                  refine e_Ok.run (t' := (81, [(4, (0, y4 + 1)), (0, (1, 262)), (1, (1, 17 * a + 86)), (2, (0, z11)), (3, (0, y3))], [], w66)) 1 rfl ?_
                  refine e_Ok.sub kAlk (e_sub_of rfl ?_) (ih30 (y4 + 1) w66 ⟨f67, hT69, (fun c k g1 g2 => by rw [← hw66, e_up_ne _ _ (by omega)]; exact j33 c k g1 g2), (by rw [← hw66, e_up_ne _ _ (by omega)]; exact j34), (fun j g1 g2 => by rw [← hw66]; by_cases e : j = y4; (rw [e, e_up_eq]); (rw [e_up_ne _ _ (by omega)]; exact j35 j g1 (by omega))), by omega, by omega⟩ (by omega))
                  exact ⟨rfl, rfl, rfl, rfl, rfl, trivial⟩
            refine e_Ok.sub kAlk (e_sub_of rfl ?_) (hL29 (6 + 1 : Int).toNat 0 v1 ⟨j15, j16, (fun c k g1 _ => j17 c k g1), j18, (fun j g1 g2 => by omega), by omega, by omega⟩ (by omega))
            exact ⟨rfl, rfl, rfl, rfl, rfl, trivial⟩
          · replace h28 : (z26 : Int) = z11 := by have q : ¬ ((z26 : Int) ≠ z11) := h28; omega
            refine e_Ok.run (t' := (59, [(0, (1, 262)), (1, (1, 17 * a + 86)), (2, (0, z11)), (3, (0, y3))], [(0, 1000), (0, y3)], v1)) 2 rfl ?_
            refine e_Ok.if2 rfl (fun h70 => ?_) (fun h70 => ?_)
            · replace h70 : (y3 : Int) ≥ 1000 := h70
              have hy3 : 1 ≤ y3 := by
                by_cases g : y3 = 0
                · exfalso; have g2 := hz1 (by omega); rw [g, show p + 0 = p by omega] at g2; omega
                · omega
              clear hz1 hz2
              refine e_Ok.run (t' := (81, [(4, (0, 0)), (0, (1, 262)), (1, (1, 17 * a + 86)), (2, (0, z11)), (3, (0, y3))], [], v1)) 2 rfl ?_
              have hL71 : ∀ (nn : Nat) (y4 : Int) (v2 : eW), e_fr (kGf a) w v2 ∧ e_Has kTy v2 ∧ (∀ c k, ¬ (c = 17 * a + 86 ∧ k = 18) → ¬ (17 * a + 97 ≤ c ∧ c ≤ 17 * a + 102 ∧ k = 9) → v2 c k = w c k) ∧ v2 (17 * a + 86) 18 = p + y3 ∧ (∀ j, 0 ≤ j → j < y4 → v2 (17 * a + j + 97) 9 = w (17 * a + j + 97) 7) ∧ y4 ≤ w (17 * a + 86) 8 ∧ (0 ≤ y4 ∧ y4 ≤ 6) → 6 - y4 < nn → e_Ok 20 elay kcode eI (d + 1) 108 (81, [(0, (1, 262)), (1, (1, 17 * a + 86)), (2, (0, z11)), (3, (0, y3)), (4, (0, y4))], [], v2) (fun r w' => ∃ z : Int, r = [(0, z)] ∧ e_fr (kGf a) w w' ∧ e_Has kTy w' ∧ ((z = 0 ∧ w' = w ∧ (p < 0 ∨ w 270 y ≤ p)) ∨ (z = 1 ∧ (w' (17 * a + 86) 11 = 1 ∧ kn1 (w' (17 * a + 86) 12)) ∧ (∀ j, 0 ≤ j → j < w (17 * a + 86) 8 → (w (17 * a + j + 97) 1 ≤ w' (17 * a + j + 97) 9 ∧ w' (17 * a + j + 97) 9 ≤ w (17 * a + j + 97) 2) ∧ kn1 (w' (17 * a + j + 97) 10)) ∧ 0 ≤ y ∧ 0 ≤ w' (17 * a + 86) 18 ∧ w' (17 * a + 86) 18 ≤ w 270 y ∧ yP w' a (w (17 * a + 86) 8) y (w' (17 * a + 86) 18) (fun j => w' (17 * a + j + 97) 9)))) := by
                intro nn
                induction nn with
                | zero => intro y4 v2 hj hm; obtain ⟨j73, j74, j75, j76, j77, j78, j79⟩ := hj; exfalso; omega
                | succ nn ih72 =>
                  intro y4 v2 hj hm
                  obtain ⟨j73, j74, j75, j76, j77, j78, j79⟩ := hj
                  have l80 : v2 (17 * a + 86) 8 = w (17 * a + 86) 8 := j73 (17 * a + 86) 8 (by unfold kGf; omega)
                  refine e_Ok.run (t' := (84, [(0, (1, 262)), (1, (1, 17 * a + 86)), (2, (0, z11)), (3, (0, y3)), (4, (0, y4))], [(1, 17 * a + 86), (0, y4)], v2)) 2 rfl ?_
                  have h81 := (e_Has.get hT (c := 17 * a + 86) (k := 8) (lo := 0) (hi := 6) (kA_8 (a := a) (by omega) (by omega)) (by decide))
                  refine e_Ok.getf (z := w (17 * a + 86) 8) rfl (lA0 (a := a) (by omega) (by omega)) rfl rfl ((j73 (17 * a + 86) 8 (by unfold kGf; omega)).trans rfl) (by omega) ?_
                  refine e_Ok.if2 rfl (fun h82 => ?_) (fun h82 => ?_)
                  · replace h82 : (y4 : Int) ≥ w (17 * a + 86) 8 := h82
                    have hwd := (hy (by omega)).2.1
                    have e271 : v2 271 y = w 271 y := j75 _ _ (by omega) (by omega)
                    have hmul : 0 ≤ y3 * w 271 y ∧ y3 * w 271 y ≤ 16000 := ⟨Int.mul_nonneg (by omega) (by omega), by have g := Int.mul_le_mul (show y3 ≤ 1000 by omega) (show w 271 y ≤ 16 by omega) (by omega) (by decide); omega⟩
                    refine e_Ok.run (t' := (118, [(0, (1, 262)), (1, (1, 17 * a + 86)), (2, (0, z11)), (3, (0, y3)), (4, (0, y4))], [(1, 262), (0, y3)], v2)) 2 rfl ?_
                    refine e_Ok.getr (z := 271) rfl (el_o rfl) rfl rfl ((j73 262 12 (by unfold kGf; omega)).trans (Eq.trans (e_Has.eq hT rfl) (by omega))) (by omega) ?_
                    refine e_Ok.run (t' := (122, [(0, (1, 262)), (1, (1, 17 * a + 86)), (2, (0, z11)), (3, (0, y3)), (4, (0, y4))], [(1, 17 * a + 86), (1, 271), (0, y3)], v2)) 1 rfl ?_
                    refine e_Ok.getf (z := y) rfl (lA0 (a := a) (by omega) (by omega)) rfl rfl ((j73 (17 * a + 86) 17 (by unfold kGf; omega)).trans hY) (by omega) ?_
                    refine e_Ok.ald (z := w 271 y) rfl (el_o rfl) rfl (by omega) ((j73 271 y (by unfold kGf; omega)).trans rfl) (by omega) ?_
                    refine e_Ok.mul (z := y3 * (w 271 y)) rfl (by omega) (by omega) ?_
                    generalize hfr : y3 * (w 271 y) = fr at hmul ⊢
                    refine e_Ok.run (t' := (130, [(4, (0, fr)), (0, (1, 262)), (1, (1, 17 * a + 86)), (2, (0, z11)), (3, (0, y3))], [(1, 17 * a + 86)], v2)) 2 rfl ?_
                    refine e_Ok.getr (z := 17 * a + 87) rfl (lA0 (a := a) (by omega) (by omega)) rfl rfl ((j73 (17 * a + 86) 0 (by unfold kGf; omega)).trans (Eq.trans (e_Has.eq hT (kA_0 (a := a) (by omega) (by omega))) (by omega))) (by omega) ?_
                    refine e_Ok.run (t' := (135, [(4, (0, fr)), (0, (1, 262)), (1, (1, 17 * a + 86)), (2, (0, z11)), (3, (0, y3))], [(0, 2), (0, z11), (1, 17 * a + 87)], v2)) 2 rfl ?_
                    refine e_Ok.divn (fun z83 hz83 => ?_) rfl (by omega) (by omega)
                    replace hz83 : z83 = z11 / 2 := hz83
                    have z83r : 0 ≤ z83 ∧ z83 ≤ 5 := by omega
                    refine e_Ok.aald (z := 17 * a + z83 + 97) rfl (lA1 (a := a) (by omega) (by omega)) rfl (by omega) ((j73 (17 * a + 87) z83 (by unfold kGf; omega)).trans (Eq.trans (e_Has.eq hT (kA87 (a := a) (by omega) (by omega) (by omega))) (by omega))) (by omega) ?_
                    refine e_Ok.run (t' := (138, [(4, (0, fr)), (0, (1, 262)), (1, (1, 17 * a + 86)), (2, (0, z11)), (3, (0, y3))], [(1, 17 * a + z83 + 97), (1, 17 * a + z83 + 97)], v2)) 1 rfl ?_
                    have hgz := j77 z83 (by omega) (by omega)
                    have hrz := hr z83 (by omega) (by omega)
                    refine e_Ok.getf (z := w (17 * a + z83 + 97) 7) rfl (lJ (a := a) (j := z83) (by omega) (by omega) (by omega)) rfl rfl hgz (by omega) ?_
                    refine e_Ok.run (t' := (143, [(4, (0, fr)), (0, (1, 262)), (1, (1, 17 * a + 86)), (2, (0, z11)), (3, (0, y3))], [(0, 2), (0, z11), (0, w (17 * a + z83 + 97) 7), (1, 17 * a + z83 + 97)], v2)) 2 rfl ?_
                    refine e_Ok.remn (fun z84 hz84 => ?_) rfl (by omega) (by omega)
                    replace hz84 : z84 = z11 % 2 := hz84
                    have z84r : 0 ≤ z84 ∧ z84 ≤ 1 := by omega
                    refine e_Ok.if1 rfl (fun h85 => ?_) (fun h85 => ?_)
                    · replace h85 : (z84 : Int) ≠ 0 := h85
                      refine e_Ok.run (t' := (154, [(4, (0, fr)), (0, (1, 262)), (1, (1, 17 * a + 86)), (2, (0, z11)), (3, (0, y3))], [(0, fr), (0, w (17 * a + z83 + 97) 7), (1, 17 * a + z83 + 97)], v2)) 1 rfl ?_
                      refine e_Ok.neg (z := -fr) rfl (by omega) (by omega) ?_
                      refine e_Ok.add (z := w (17 * a + z83 + 97) 7 - fr) rfl (by omega) (by omega) ?_
                      refine e_Ok.putf rfl (lJ (a := a) (j := z83) (by omega) (by omega) (by omega)) rfl rfl ?_
                      generalize hw86 : e_up v2 (17 * a + z83 + 97) 9 (w (17 * a + z83 + 97) 7 - fr) = w86
                      have f87 : e_fr (kGf a) w w86 := e_fr.up j73 hw86 (by unfold kGf; omega)
                      have l88 : w86 (17 * a + 86) 8 = w (17 * a + 86) 8 := f87 (17 * a + 86) 8 (by unfold kGf; omega)
                      have hT89 : e_Has kTy w86 := e_Has.upr j74 hw86 (kJ_9 (a := a) (j := z83) (by omega) (by omega) (by omega)) (by omega)
                      refine e_Ok.run (t' := (161, [(4, (0, fr)), (0, (1, 262)), (1, (1, 17 * a + 86)), (2, (0, z11)), (3, (0, y3))], [(0, (-1)), (1, 17 * a + 86)], w86)) 2 rfl ?_
                      refine e_Ok.callV rfl (by omega) rfl (lA0 (a := a) (by omega) (by omega)) rfl rfl (c_13 (a := a) hT89 (by omega) (by omega)) (fun r90 w91 h92 => ?_)
                      obtain ⟨rfl, q93f, q93T, q93x⟩ := h92
                      have f94 : e_fr (kGf a) w w91 := e_fr.trans f87 (e_fr.mono q93f (fun c k q => by exact gf_kBm q))
                      have l95 : w91 (17 * a + 86) 8 = w (17 * a + 86) 8 := f94 (17 * a + 86) 8 (by unfold kGf; omega)
                      show e_Ok 20 elay kcode eI (d + 1) 108 (164, [(4, (0, fr)), (0, (1, 262)), (1, (1, 17 * a + 86)), (2, (0, z11)), (3, (0, y3))], [], w91) _
                      refine e_Ok.run (t' := (165, [(4, (0, fr)), (0, (1, 262)), (1, (1, 17 * a + 86)), (2, (0, z11)), (3, (0, y3))], [(0, 1)], w91)) 1 rfl ?_
                      refine e_Ok.rets rfl rfl ?_
                      have hrun := (hp (by omega)).2.2.run (n := y3) (by omega) (by omega) j20 rfl
                      have eg : ∀ j, 0 ≤ j → j < w (17 * a + 86) 8 → w91 (17 * a + j + 97) 9 = w (17 * a + j + 97) 7 + dlt z11 j (y3 * w 271 y) := fun j g1 g2 => by
                        rw [q93f _ _ (by unfold kBm; omega), ← hw86]
                        by_cases e : j = z83
                        · rw [e, e_up_eq]; unfold dlt; split
                          · omega
                          · split <;> omega
                        · rw [e_up_ne _ _ (by omega), j77 j g1 (by omega)]; unfold dlt; rw [if_neg (by omega), if_neg (by omega)]; omega
                      have eo : ∀ c k, ¬ (c = 17 * a + 86 ∧ ((11 ≤ k ∧ k ≤ 13) ∨ k = 18)) → ¬ (17 * a + 97 ≤ c ∧ c ≤ 17 * a + 102 ∧ (k = 9 ∨ k = 10)) → w91 c k = w c k := fun c k g1 g2 => by rw [q93f c k (by unfold kBm; omega), ← hw86, e_up_ne _ _ (by omega)]; exact j75 c k (by omega) (by omega)
                      have e18 : w91 (17 * a + 86) 18 = p + y3 := by rw [q93f _ _ (by unfold kBm; omega), ← hw86, e_up_ne _ _ (by omega)]; exact j76
                      have e8 : w86 (17 * a + 86) 8 = w (17 * a + 86) 8 := by rw [← hw86, e_up_ne _ _ (by omega)]; exact j75 _ _ (by omega) (by omega)
                      exact ⟨_, rfl, f94, q93T, Or.inr ⟨rfl, ⟨q93x.1.1, by rw [q93x.1.2.1]; unfold kn1; decide⟩, fun j g1 g2 => ⟨by rw [eg j g1 g2]; exact hrun.2 hy3 j g1 g2, q93x.2 j g1 (by omega)⟩, by omega, by omega, by omega, by rw [e18]; exact hrun.1.eq (fun c k g1 g2 => eo c k (by omega) (by omega)) (fun j g1 g2 => ⟨eo _ _ (by omega) (by omega), eo _ _ (by omega) (by omega)⟩) (fun j g1 g2 => eg j g1 g2)⟩⟩
                    · replace h85 : (z84 : Int) = 0 := by have q : ¬ ((z84 : Int) ≠ 0) := h85; omega
                      refine e_Ok.run (t' := (155, [(4, (0, fr)), (0, (1, 262)), (1, (1, 17 * a + 86)), (2, (0, z11)), (3, (0, y3))], [(0, fr), (0, w (17 * a + z83 + 97) 7), (1, 17 * a + z83 + 97)], v2)) 2 rfl ?_
                      refine e_Ok.add (z := w (17 * a + z83 + 97) 7 + fr) rfl (by omega) (by omega) ?_
                      refine e_Ok.putf rfl (lJ (a := a) (j := z83) (by omega) (by omega) (by omega)) rfl rfl ?_
                      generalize hw101 : e_up v2 (17 * a + z83 + 97) 9 (w (17 * a + z83 + 97) 7 + fr) = w101
                      have f103 : e_fr (kGf a) w w101 := e_fr.up j73 hw101 (by unfold kGf; omega)
                      have l104 : w101 (17 * a + 86) 8 = w (17 * a + 86) 8 := f103 (17 * a + 86) 8 (by unfold kGf; omega)
                      have hT105 : e_Has kTy w101 := e_Has.upr j74 hw101 (kJ_9 (a := a) (j := z83) (by omega) (by omega) (by omega)) (by omega)
                      refine e_Ok.run (t' := (161, [(4, (0, fr)), (0, (1, 262)), (1, (1, 17 * a + 86)), (2, (0, z11)), (3, (0, y3))], [(0, (-1)), (1, 17 * a + 86)], w101)) 2 rfl ?_
                      refine e_Ok.callV rfl (by omega) rfl (lA0 (a := a) (by omega) (by omega)) rfl rfl (c_13 (a := a) hT105 (by omega) (by omega)) (fun r106 w107 h108 => ?_)
                      obtain ⟨rfl, q109f, q109T, q109x⟩ := h108
                      have f110 : e_fr (kGf a) w w107 := e_fr.trans f103 (e_fr.mono q109f (fun c k q => by exact gf_kBm q))
                      have l111 : w107 (17 * a + 86) 8 = w (17 * a + 86) 8 := f110 (17 * a + 86) 8 (by unfold kGf; omega)
                      show e_Ok 20 elay kcode eI (d + 1) 108 (164, [(4, (0, fr)), (0, (1, 262)), (1, (1, 17 * a + 86)), (2, (0, z11)), (3, (0, y3))], [], w107) _
                      refine e_Ok.run (t' := (165, [(4, (0, fr)), (0, (1, 262)), (1, (1, 17 * a + 86)), (2, (0, z11)), (3, (0, y3))], [(0, 1)], w107)) 1 rfl ?_
                      refine e_Ok.rets rfl rfl ?_
                      have hrun := (hp (by omega)).2.2.run (n := y3) (by omega) (by omega) j20 rfl
                      have eg : ∀ j, 0 ≤ j → j < w (17 * a + 86) 8 → w107 (17 * a + j + 97) 9 = w (17 * a + j + 97) 7 + dlt z11 j (y3 * w 271 y) := fun j g1 g2 => by
                        rw [q109f _ _ (by unfold kBm; omega), ← hw101]
                        by_cases e : j = z83
                        · rw [e, e_up_eq]; unfold dlt; split
                          · omega
                          · split <;> omega
                        · rw [e_up_ne _ _ (by omega), j77 j g1 (by omega)]; unfold dlt; rw [if_neg (by omega), if_neg (by omega)]; omega
                      have eo : ∀ c k, ¬ (c = 17 * a + 86 ∧ ((11 ≤ k ∧ k ≤ 13) ∨ k = 18)) → ¬ (17 * a + 97 ≤ c ∧ c ≤ 17 * a + 102 ∧ (k = 9 ∨ k = 10)) → w107 c k = w c k := fun c k g1 g2 => by rw [q109f c k (by unfold kBm; omega), ← hw101, e_up_ne _ _ (by omega)]; exact j75 c k (by omega) (by omega)
                      have e18 : w107 (17 * a + 86) 18 = p + y3 := by rw [q109f _ _ (by unfold kBm; omega), ← hw101, e_up_ne _ _ (by omega)]; exact j76
                      have e8 : w101 (17 * a + 86) 8 = w (17 * a + 86) 8 := by rw [← hw101, e_up_ne _ _ (by omega)]; exact j75 _ _ (by omega) (by omega)
                      exact ⟨_, rfl, f110, q109T, Or.inr ⟨rfl, ⟨q109x.1.1, by rw [q109x.1.2.1]; unfold kn1; decide⟩, fun j g1 g2 => ⟨by rw [eg j g1 g2]; exact hrun.2 hy3 j g1 g2, q109x.2 j g1 (by omega)⟩, by omega, by omega, by omega, by rw [e18]; exact hrun.1.eq (fun c k g1 g2 => eo c k (by omega) (by omega)) (fun j g1 g2 => ⟨eo _ _ (by omega) (by omega), eo _ _ (by omega) (by omega)⟩) (fun j g1 g2 => eg j g1 g2)⟩⟩
                  · replace h82 : (y4 : Int) < w (17 * a + 86) 8 := by have q : ¬ ((y4 : Int) ≥ w (17 * a + 86) 8) := h82; omega
                    refine e_Ok.run (t' := (91, [(0, (1, 262)), (1, (1, 17 * a + 86)), (2, (0, z11)), (3, (0, y3)), (4, (0, y4))], [(1, 17 * a + 86)], v2)) 1 rfl ?_
                    refine e_Ok.getr (z := 17 * a + 87) rfl (lA0 (a := a) (by omega) (by omega)) rfl rfl ((j73 (17 * a + 86) 0 (by unfold kGf; omega)).trans (Eq.trans (e_Has.eq hT (kA_0 (a := a) (by omega) (by omega))) (by omega))) (by omega) ?_
                    refine e_Ok.run (t' := (96, [(0, (1, 262)), (1, (1, 17 * a + 86)), (2, (0, z11)), (3, (0, y3)), (4, (0, y4))], [(0, y4), (1, 17 * a + 87)], v2)) 1 rfl ?_
                    refine e_Ok.aald (z := 17 * a + y4 + 97) rfl (lA1 (a := a) (by omega) (by omega)) rfl (by omega) ((j73 (17 * a + 87) y4 (by unfold kGf; omega)).trans (Eq.trans (e_Has.eq hT (kA87 (a := a) (by omega) (by omega) (by omega))) (by omega))) (by omega) ?_
                    refine e_Ok.run (t' := (98, [(0, (1, 262)), (1, (1, 17 * a + 86)), (2, (0, z11)), (3, (0, y3)), (4, (0, y4))], [(1, 17 * a + 86), (1, 17 * a + y4 + 97)], v2)) 1 rfl ?_
                    refine e_Ok.getr (z := 17 * a + 87) rfl (lA0 (a := a) (by omega) (by omega)) rfl rfl ((j73 (17 * a + 86) 0 (by unfold kGf; omega)).trans (Eq.trans (e_Has.eq hT (kA_0 (a := a) (by omega) (by omega))) (by omega))) (by omega) ?_
                    refine e_Ok.run (t' := (103, [(0, (1, 262)), (1, (1, 17 * a + 86)), (2, (0, z11)), (3, (0, y3)), (4, (0, y4))], [(0, y4), (1, 17 * a + 87), (1, 17 * a + y4 + 97)], v2)) 1 rfl ?_
                    refine e_Ok.aald (z := 17 * a + y4 + 97) rfl (lA1 (a := a) (by omega) (by omega)) rfl (by omega) ((j73 (17 * a + 87) y4 (by unfold kGf; omega)).trans (Eq.trans (e_Has.eq hT (kA87 (a := a) (by omega) (by omega) (by omega))) (by omega))) (by omega) ?_
                    have h112 := (e_Has.get hT (c := 17 * a + y4 + 97) (k := 7) (lo := (-2147483648)) (hi := 2147483647) (kJ_7 (a := a) (j := y4) (by omega) (by omega) (by omega)) (by decide))
                    refine e_Ok.getf (z := w (17 * a + y4 + 97) 7) rfl (lJ (a := a) (j := y4) (by omega) (by omega) (by omega)) rfl rfl ((j73 (17 * a + y4 + 97) 7 (by unfold kGf; omega)).trans rfl) (by omega) ?_
                    refine e_Ok.putf rfl (lJ (a := a) (j := y4) (by omega) (by omega) (by omega)) rfl rfl ?_
                    generalize hw113 : e_up v2 (17 * a + y4 + 97) 9 (w (17 * a + y4 + 97) 7) = w113
                    have f114 : e_fr (kGf a) w w113 := e_fr.up j73 hw113 (by unfold kGf; omega)
                    have l115 : w113 (17 * a + 86) 8 = w (17 * a + 86) 8 := f114 (17 * a + 86) 8 (by unfold kGf; omega)
                    have hT116 : e_Has kTy w113 := e_Has.upr j74 hw113 (kJ_9 (a := a) (j := y4) (by omega) (by omega) (by omega)) (by omega)
                    refine e_Ok.inc (z := y4 + 1) rfl rfl (by omega) (by omega) ?_
                    show e_Ok 20 elay kcode eI (d + 1) 108 (113, [(4, (0, y4 + 1)), (0, (1, 262)), (1, (1, 17 * a + 86)), (2, (0, z11)), (3, (0, y3))], [], w113) _
                    refine e_Ok.run (t' := (81, [(4, (0, y4 + 1)), (0, (1, 262)), (1, (1, 17 * a + 86)), (2, (0, z11)), (3, (0, y3))], [], w113)) 1 rfl ?_
                    refine e_Ok.sub kAlk (e_sub_of rfl ?_) (ih72 (y4 + 1) w113 ⟨f114, hT116, (fun c k g1 g2 => by rw [← hw113, e_up_ne _ _ (by omega)]; exact j75 c k g1 g2), (by rw [← hw113, e_up_ne _ _ (by omega)]; exact j76), (fun j g1 g2 => by rw [← hw113]; by_cases e : j = y4; (rw [e, e_up_eq]); (rw [e_up_ne _ _ (by omega)]; exact j77 j g1 (by omega))), by omega, by omega⟩ (by omega))
                    exact ⟨rfl, rfl, rfl, rfl, rfl, trivial⟩
              refine e_Ok.sub kAlk (e_sub_of rfl ?_) (hL71 (6 + 1 : Int).toNat 0 v1 ⟨j15, j16, (fun c k g1 _ => j17 c k g1), j18, (fun j g1 g2 => by omega), by omega, by omega⟩ (by omega))
              exact ⟨rfl, rfl, rfl, rfl, rfl, trivial⟩
            · replace h70 : (y3 : Int) < 1000 := by have q : ¬ ((y3 : Int) ≥ 1000) := h70; omega
              refine e_Ok.inc (z := y3 + 1) rfl rfl (by omega) (by omega) ?_
              show e_Ok 20 elay kcode eI (d + 1) 108 (65, [(3, (0, y3 + 1)), (0, (1, 262)), (1, (1, 17 * a + 86)), (2, (0, z11))], [], v1) _
              refine e_Ok.run (t' := (67, [(3, (0, y3 + 1)), (0, (1, 262)), (1, (1, 17 * a + 86)), (2, (0, z11))], [(1, 17 * a + 86), (1, 17 * a + 86)], v1)) 2 rfl ?_
              refine e_Ok.getf (z := p + y3) rfl (lA0 (a := a) (by omega) (by omega)) rfl rfl j18 (by omega) ?_
              refine e_Ok.run (t' := (71, [(3, (0, y3 + 1)), (0, (1, 262)), (1, (1, 17 * a + 86)), (2, (0, z11))], [(0, 1), (0, p + y3), (1, 17 * a + 86)], v1)) 1 rfl ?_
              refine e_Ok.add (z := p + y3 + 1) rfl (by omega) (by omega) ?_
              refine e_Ok.putf rfl (lA0 (a := a) (by omega) (by omega)) rfl rfl ?_
              generalize hw117 : e_up v1 (17 * a + 86) 18 (p + y3 + 1) = w117
              have f118 : e_fr (kGf a) w w117 := e_fr.up j15 hw117 (by unfold kGf; omega)
              have l119 : w117 (17 * a + 86) 8 = w (17 * a + 86) 8 := f118 (17 * a + 86) 8 (by unfold kGf; omega)
              have hT120 : e_Has kTy w117 := e_Has.upr j16 hw117 (kA_18 (a := a) (by omega) (by omega)) (by omega)
              refine e_Ok.run (t' := (39, [(3, (0, y3 + 1)), (0, (1, 262)), (1, (1, 17 * a + 86)), (2, (0, z11))], [], w117)) 1 rfl ?_
              refine e_Ok.sub kAlk (e_sub_of rfl ?_) (ih14 (y3 + 1) w117 ⟨f118, hT120, (fun c k g1 => by rw [← hw117, e_up_ne _ _ (by omega)]; exact j17 c k g1), (by rw [← hw117, e_up_eq]; omega), by omega, (fun i g1 g2 => if e : i = y3 then by rw [e]; have g := hz1 (by omega); omega else j20 i g1 (by omega)), by omega⟩ (by omega))
              exact ⟨rfl, rfl, rfl, rfl, trivial⟩
      refine e_Ok.sub kAlk (e_sub_of rfl ?_) (hL13 (1000 + 1 : Int).toNat 0 w ⟨(e_fr.refl w), hT, (fun _ _ _ => rfl), by omega, by omega, (fun i g1 g2 => by omega), by omega⟩ (by omega))
      exact ⟨rfl, rfl, rfl, rfl, trivial⟩
    · replace h7 : (p : Int) ≥ z5 := by have q : ¬ ((p : Int) < z5) := h7; omega
      refine e_Ok.run (t' := (23, [(0, (1, 262)), (1, (1, 17 * a + 86))], [(0, 0)], w)) 1 rfl ?_
      refine e_Ok.rets rfl rfl ?_
      exact ⟨_, rfl, e_fr.refl w, hT, Or.inl ⟨rfl, rfl, by omega⟩⟩
end
