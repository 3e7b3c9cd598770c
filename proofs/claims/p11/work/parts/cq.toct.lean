-- part cq
section
noncomputable section
/-! the class: the next move of a travel -/
def kGf (a : Int) (c k : Int) : Prop := (c = 17 * a + 86 ∧ ((11 ≤ k ∧ k ≤ 13) ∨ k = 18)) ∨ (17 * a + 97 ≤ c ∧ c ≤ 17 * a + 102 ∧ (k = 9 ∨ k = 10))
theorem dlt_add (s j x y : Int) : dlt s j (x + y) = dlt s j x + dlt s j y := by unfold dlt; split <;> (try split) <;> omega
theorem dlt_zero (s j : Int) : dlt s j 0 = 0 := by unfold dlt; split <;> (try split) <;> omega
/-- n steps alike from p on -/
theorem yP.run {w : eW} {a m y p n st wd : Int} {v : Int → Int} (h : yP w a m y p v) (hn : 0 ≤ n) (hl : p + n ≤ w 270 y) (hs : ∀ i, 0 ≤ i → i < n → w 269 (1000 * y + (p + i)) = st) (hw : w 271 y = wd) : yP w a m y (p + n) (fun j => v j + dlt st j (n * wd)) ∧ (1 ≤ n → ∀ j, 0 ≤ j → j < m → w (17 * a + j + 97) 1 ≤ v j + dlt st j (n * wd) ∧ v j + dlt st j (n * wd) ≤ w (17 * a + j + 97) 2) := by
  obtain ⟨N, h1, h2⟩ := h
  have key : ∀ i : Nat, (i : Int) ≤ n → ∀ j, 0 ≤ j → j < m → N (p + i) j = v j + dlt st j (i * wd) := by
    intro i
    induction i with
    | zero => intro _ j g1 g2; rw [show p + ((0 : Nat) : Int) = p by omega, h1 j g1 g2, show ((0 : Nat) : Int) * wd = 0 by simp, dlt_zero]; omega
    | succ i ih =>
      intro gi j g1 g2
      have g3 := h2 (p + i) (by omega) (by omega) j g1 g2
      rw [show p + ((i + 1 : Nat) : Int) = p + i + 1 by omega, g3.1, ih (by omega) j g1 g2, hs i (by omega) (by omega), hw, show ((i + 1 : Nat) : Int) * wd = i * wd + wd by rw [Int.natCast_add, Int.add_mul]; simp, dlt_add]
      omega
  have kn := key n.toNat (by omega)
  rw [show ((n.toNat : Nat) : Int) = n by omega] at kn
  refine ⟨⟨N, kn, fun k g1 g2 => h2 k (by omega) g2⟩, fun g j g1 g2 => ?_⟩
  rw [← kn j g1 g2]
  have g3 := (h2 (p + n - 1) (by omega) (by omega) j g1 g2).2
  rw [show p + n - 1 + 1 = p + n by omega] at g3
  exact g3
theorem gf_kBm {a c k : Int} (q : kBm a c k) : kGf a c k := by
  unfold kBm at q
  unfold kGf
  omega
theorem no_cq_0 {a : Int} (ha : 0 ≤ a ∧ a ≤ 3) : ¬ kGf a (17 * a + 86) 8 := by unfold kGf; omega
theorem no_cq_1 {a : Int} (ha : 0 ≤ a ∧ a ≤ 3) : ¬ kGf a (17 * a + 86) 17 := by unfold kGf; omega
theorem no_cq_2 {a : Int} (ha : 0 ≤ a ∧ a ≤ 3) : ¬ kGf a 262 12 := by unfold kGf; omega
theorem no_cq_3 {a : Int} (ha : 0 ≤ a ∧ a ≤ 3) : ¬ kGf a (17 * a + 86) 0 := by unfold kGf; omega
set_option maxHeartbeats 4000000 in
theorem c_108 {d : Nat} (hd : 23 ≤ d) {w : eW} (hT : e_Has kTy w) {a y p : Int} (ga : 0 ≤ a ∧ a ≤ 3) (hY : w (17 * a + 86) 17 = y) (hP : w (17 * a + 86) 18 = p) (hy : 0 ≤ y → yD w (w (17 * a + 86) 8) y) (hp : 0 ≤ p → 0 ≤ y ∧ p ≤ w 270 y ∧ yP w a (w (17 * a + 86) 8) y p (fun j => w (17 * a + j + 97) 7)) (hr : ∀ j, 0 ≤ j → j < w (17 * a + 86) 8 → -100000 ≤ w (17 * a + j + 97) 7 ∧ w (17 * a + j + 97) 7 ≤ 100000) : e_Ok 20 elay kcode eI d 108 (0, [(0, (1, 262)), (1, (1, 17 * a + 86))], [], w) (fun r w' => ∃ z : Int, r = [(0, z)] ∧ e_fr (kGf a) w w' ∧ e_Has kTy w' ∧ ((z = 0 ∧ w' = w ∧ (p < 0 ∨ w 270 y ≤ p)) ∨ (z = 1 ∧ (w' (17 * a + 86) 11 = 1 ∧ kn1 (w' (17 * a + 86) 12)) ∧ (∀ j, 0 ≤ j → j < w (17 * a + 86) 8 → (w (17 * a + j + 97) 1 ≤ w' (17 * a + j + 97) 9 ∧ w' (17 * a + j + 97) 9 ≤ w (17 * a + j + 97) 2) ∧ kn1 (w' (17 * a + j + 97) 10)) ∧ 0 ≤ y ∧ 0 ≤ w' (17 * a + 86) 18 ∧ w' (17 * a + 86) 18 ≤ w 270 y ∧ yP w' a (w (17 * a + 86) 8) y (w' (17 * a + 86) 18) (fun j => w' (17 * a + j + 97) 9)))) := by
  obtain ⟨d, rfl⟩ : ∃ e, d = e + 1 := ⟨d - 1, by omega⟩
  have hjn := kn_joints hT (a := a) (by omega)
  have hyr := e_Has.get hT (c := 17 * a + 86) (k := 17) (lo := -1) (hi := 59) (kA_17 (a := a) rfl ga) (by decide)
  have hpr := e_Has.get hT (c := 17 * a + 86) (k := 18) (lo := -1) (hi := 1000) (kA_18 (a := a) rfl ga) (by decide)
  have hp0 : 0 ≤ p → 0 ≤ y ∧ p ≤ w 270 y := fun g => ⟨(hp g).1, (hp g).2.1⟩
  have hy0 : 0 ≤ y → 0 ≤ w 270 y ∧ w 270 y ≤ 1000 := fun g => (hy g).1
  refine e_Ok.ps1 (x := (1, 17 * a + 86)) (q := 1) 1 rfl ?_
  refine e_Ok.getf (z := p) rfl (lA0 (a := a) rfl ga) rfl rfl hP (by omega) ?_
  refine e_Ok.if1 rfl (fun h1 => ?_) (fun h1 => ?_)
  · replace h1 : (p : Int) < 0 := h1
    refine e_Ok.ps1 (x := (0, 0)) (q := 23) 1 rfl ?_
    refine e_Ok.rets rfl rfl ?_
    exact ⟨_, rfl, e_fr.refl w, hT, Or.inl ⟨rfl, rfl, by omega⟩⟩
  · replace h1 : (p : Int) ≥ 0 := Int.not_lt.mp (show ¬ ((p : Int) < 0) from h1)
    refine e_Ok.ps1 (x := (1, 17 * a + 86)) (q := 8) 1 rfl ?_
    refine e_Ok.getf (z := p) rfl (lA0 (a := a) rfl ga) rfl rfl hP (by omega) ?_
    refine e_Ok.ps2 (x := (1, 17 * a + 86)) (y := (1, 262)) (q := 13) 2 rfl ?_
    refine e_Ok.getf (z := y) rfl (lA0 (a := a) rfl ga) rfl rfl hY (by omega) ?_
    refine e_Ok.callV rfl (e_dq hd rfl) rfl rfl rfl rfl (c_95 (e_dq hd rfl) (m := w (17 * a + 86) 8) hT (by omega) hy) (fun r2 w3 h4 => ?_)
    obtain ⟨z5, rfl, rfl, q6r, q6x⟩ := h4
    refine e_Ok.nrm (q := 19) (st' := [(0, z5), (0, p)]) rfl rfl ?_
    refine e_Ok.if2 rfl (fun h7 => ?_) (fun h7 => ?_)
    · replace h7 : (p : Int) < z5 := h7
      refine e_Ok.ps2 (x := (1, 17 * a + 86)) (y := (1, 262)) (q := 26) 2 rfl ?_
      refine e_Ok.getf (z := y) rfl (lA0 (a := a) rfl ga) rfl rfl hY (by omega) ?_
      refine e_Ok.ps1 (x := (1, 17 * a + 86)) (q := 30) 1 rfl ?_
      refine e_Ok.getf (z := p) rfl (lA0 (a := a) rfl ga) rfl rfl hP (by omega) ?_
      refine e_Ok.callV rfl (e_dq hd rfl) rfl rfl rfl rfl (c_96 (e_dq hd rfl) (m := w (17 * a + 86) 8) hT (by omega) (by omega) hy (by omega)) (fun r8 w9 h10 => ?_)
      obtain ⟨z11, rfl, rfl, q12r, q12x⟩ := h10
      have hst : z11 = w 269 (1000 * y + p) ∧ 0 ≤ z11 ∧ z11 < 2 * w (17 * a + 86) 8 := q12x.1 (by omega) (by omega) (by omega)
      refine e_Ok.nrm (q := 36) (st' := [(0, z11)]) rfl rfl ?_
      refine e_Ok.run (t' := (39, [(3, (0, 0)), (2, (0, z11)), (0, (1, 262)), (1, (1, 17 * a + 86))], [], w)) 3 rfl ?_
      have hL13 : ∀ (nn : Nat) (y3 : Int) (v1 : eW), e_fr (kGf a) w v1 ∧ e_Has kTy v1 ∧ (∀ c k, ¬ (c = 17 * a + 86 ∧ k = 18) → v1 c k = w c k) ∧ v1 (17 * a + 86) 18 = p + y3 ∧ p + y3 ≤ w 270 y ∧ (∀ i, 0 ≤ i → i < y3 → w 269 (1000 * y + (p + i)) = z11) ∧ (0 ≤ y3 ∧ y3 ≤ 1000) → 1000 - y3 < nn → e_Ok 20 elay kcode eI (d + 1) 108 (39, [(0, (1, 262)), (1, (1, 17 * a + 86)), (2, (0, z11)), (3, (0, y3))], [], v1) (fun r w' => ∃ z : Int, r = [(0, z)] ∧ e_fr (kGf a) w w' ∧ e_Has kTy w' ∧ ((z = 0 ∧ w' = w ∧ (p < 0 ∨ w 270 y ≤ p)) ∨ (z = 1 ∧ (w' (17 * a + 86) 11 = 1 ∧ kn1 (w' (17 * a + 86) 12)) ∧ (∀ j, 0 ≤ j → j < w (17 * a + 86) 8 → (w (17 * a + j + 97) 1 ≤ w' (17 * a + j + 97) 9 ∧ w' (17 * a + j + 97) 9 ≤ w (17 * a + j + 97) 2) ∧ kn1 (w' (17 * a + j + 97) 10)) ∧ 0 ≤ y ∧ 0 ≤ w' (17 * a + 86) 18 ∧ w' (17 * a + 86) 18 ≤ w 270 y ∧ yP w' a (w (17 * a + 86) 8) y (w' (17 * a + 86) 18) (fun j => w' (17 * a + j + 97) 9)))) := by
        intro nn
        induction nn with
        | zero => intro y3 v1 hj hm; obtain ⟨j15, j16, j17, j18, j19, j20, j21⟩ := hj; exfalso; omega
        | succ nn ih14 =>
          intro y3 v1 hj hm
          obtain ⟨j15, j16, j17, j18, j19, j20, j21⟩ := hj
          have l22 : v1 (17 * a + 86) 8 = w (17 * a + 86) 8 := j15 (17 * a + 86) 8 (by first | exact no_cq_0 (by omega) | (unfold kGf; omega))
          refine e_Ok.run (t' := (41, [(0, (1, 262)), (1, (1, 17 * a + 86)), (2, (0, z11)), (3, (0, y3))], [(1, 17 * a + 86), (1, 262)], v1)) 2 rfl ?_
          refine e_Ok.getf (z := y) rfl (lA0 (a := a) rfl ga) rfl rfl ((j15 (17 * a + 86) 17 (by first | exact no_cq_1 (by omega) | (unfold kGf; omega))).trans hY) (by omega) ?_
          refine e_Ok.ps1 (x := (1, 17 * a + 86)) (q := 45) 1 rfl ?_
          refine e_Ok.getf (z := p + y3) rfl (lA0 (a := a) rfl ga) rfl rfl j18 (by omega) ?_
          refine e_Ok.callV rfl (e_dq hd rfl) rfl rfl rfl rfl (c_96 (e_dq hd rfl) (m := w (17 * a + 86) 8) j16 (by omega) (by omega) (fun g => (hy g).eq (fun c k g1 g2 => j17 c k (by omega))) (by omega)) (fun r23 w24 h25 => ?_)
          obtain ⟨z26, rfl, rfl, q27r, q27x⟩ := h25
          have e270 : v1 270 y = w 270 y := j17 _ _ (by omega)
          have hz1 : p + y3 < w 270 y → z26 = w 269 (1000 * y + (p + y3)) := fun g => by have g2 := (q27x.1 (by omega) (by omega) (by omega)).1; rw [j17 _ _ (by omega)] at g2; exact g2
          have hz2 : w 270 y ≤ p + y3 → z26 = -1 := fun g => q27x.2 (by omega)
          clear q27x
          refine e_Ok.nrm (q := 51) (st' := [(0, z26)]) rfl rfl ?_
          refine e_Ok.ps1 (x := (0, z11)) (q := 52) 1 rfl ?_
          refine e_Ok.if2 rfl (fun h28 => ?_) (fun h28 => ?_)
          · replace h28 : (z26 : Int) ≠ z11 := h28
            have hy3 : 1 ≤ y3 := by
              by_cases g : y3 = 0
              · exfalso; have g2 := hz1 (by omega); rw [g, show p + 0 = p by omega] at g2; omega
              · omega
            clear hz1 hz2
            refine e_Ok.run (t' := (81, [(4, (0, 0)), (0, (1, 262)), (1, (1, 17 * a + 86)), (2, (0, z11)), (3, (0, y3))], [], v1)) 2 rfl ?_
            have hL29 : ∀ (nn : Nat) (y4 : Int) (v2 : eW), e_fr (kGf a) w v2 ∧ e_Has kTy v2 ∧ (∀ c k, ¬ (c = 17 * a + 86 ∧ k = 18) → ¬ (17 * a + 97 ≤ c ∧ c ≤ 17 * a + 102 ∧ k = 9) → v2 c k = w c k) ∧ v2 (17 * a + 86) 18 = p + y3 ∧ (∀ j, 0 ≤ j → j < y4 → v2 (17 * a + j + 97) 9 = w (17 * a + j + 97) 7) ∧ y4 ≤ w (17 * a + 86) 8 ∧ (0 ≤ y4 ∧ y4 ≤ 6) → 6 - y4 < nn → e_Ok 20 elay kcode eI (d + 1) 108 (81, [(0, (1, 262)), (1, (1, 17 * a + 86)), (2, (0, z11)), (3, (0, y3)), (4, (0, y4))], [], v2) (fun r w' => ∃ z : Int, r = [(0, z)] ∧ e_fr (kGf a) w w' ∧ e_Has kTy w' ∧ ((z = 0 ∧ w' = w ∧ (p < 0 ∨ w 270 y ≤ p)) ∨ (z = 1 ∧ (w' (17 * a + 86) 11 = 1 ∧ kn1 (w' (17 * a + 86) 12)) ∧ (∀ j, 0 ≤ j → j < w (17 * a + 86) 8 → (w (17 * a + j + 97) 1 ≤ w' (17 * a + j + 97) 9 ∧ w' (17 * a + j + 97) 9 ≤ w (17 * a + j + 97) 2) ∧ kn1 (w' (17 * a + j + 97) 10)) ∧ 0 ≤ y ∧ 0 ≤ w' (17 * a + 86) 18 ∧ w' (17 * a + 86) 18 ≤ w 270 y ∧ yP w' a (w (17 * a + 86) 8) y (w' (17 * a + 86) 18) (fun j => w' (17 * a + j + 97) 9)))) := by
              intro nn
              induction nn with
              | zero => intro y4 v2 hj hm; obtain ⟨j31, j32, j33, j34, j35, j36, j37⟩ := hj; exfalso; omega
              | succ nn ih30 =>
                intro y4 v2 hj hm
                obtain ⟨j31, j32, j33, j34, j35, j36, j37⟩ := hj
                have l38 : v2 (17 * a + 86) 8 = w (17 * a + 86) 8 := j31 (17 * a + 86) 8 (by first | exact no_cq_0 (by omega) | (unfold kGf; omega))
                refine e_Ok.run (t' := (84, [(0, (1, 262)), (1, (1, 17 * a + 86)), (2, (0, z11)), (3, (0, y3)), (4, (0, y4))], [(1, 17 * a + 86), (0, y4)], v2)) 2 rfl ?_
                have h40 := (e_Has.get hT (c := 17 * a + 86) (k := 8) (lo := 0) (hi := 6) (kA_8 (a := a) rfl ga) (by decide))
                refine e_Ok.getf (z := w (17 * a + 86) 8) rfl (lA0 (a := a) rfl ga) rfl rfl ((j31 (17 * a + 86) 8 (by first | exact no_cq_0 (by omega) | (unfold kGf; omega))).trans rfl) (e_bq h40 (by decide) (by decide)) ?_
                refine e_Ok.if2 rfl (fun h41 => ?_) (fun h41 => ?_)
                · replace h41 : (y4 : Int) ≥ w (17 * a + 86) 8 := h41
                  have hwd := (hy (by omega)).2.1
                  have e271 : v2 271 y = w 271 y := j33 _ _ (by omega) (by omega)
                  have hmul : 0 ≤ y3 * w 271 y ∧ y3 * w 271 y ≤ 16000 := ⟨Int.mul_nonneg (by omega) (by omega), by have g := Int.mul_le_mul (show y3 ≤ 1000 by omega) (show w 271 y ≤ 16 by omega) (by omega) (by decide); omega⟩
                  refine e_Ok.ps2 (x := (1, 262)) (y := (0, y3)) (q := 118) 2 rfl ?_
                  refine e_Ok.getr (z := 271) rfl (el_o rfl) rfl rfl ((j31 262 12 (by first | exact no_cq_2 (by omega) | (unfold kGf; omega))).trans (e_Has.eq hT (kt_o rfl))) ⟨by decide, by decide⟩ ?_
                  refine e_Ok.ps1 (x := (1, 17 * a + 86)) (q := 122) 1 rfl ?_
                  refine e_Ok.getf (z := y) rfl (lA0 (a := a) rfl ga) rfl rfl ((j31 (17 * a + 86) 17 (by first | exact no_cq_1 (by omega) | (unfold kGf; omega))).trans hY) (by omega) ?_
                  refine e_Ok.ald (z := w 271 y) rfl (el_o rfl) rfl (by omega) ((j31 271 y (by unfold kGf; omega)).trans rfl) (by omega) ?_
                  refine e_Ok.mul (z := y3 * (w 271 y)) rfl (by omega) (by omega) ?_
                  generalize hfr : y3 * (w 271 y) = fr at hmul ⊢
                  refine e_Ok.run (t' := (130, [(4, (0, fr)), (0, (1, 262)), (1, (1, 17 * a + 86)), (2, (0, z11)), (3, (0, y3))], [(1, 17 * a + 86)], v2)) 2 rfl ?_
                  refine e_Ok.getr (z := 17 * a + 87) rfl (lA0 (a := a) rfl ga) rfl rfl ((j31 (17 * a + 86) 0 (by first | exact no_cq_3 (by omega) | (unfold kGf; omega))).trans (Eq.trans (e_Has.eq hT (kA_0 (a := a) rfl ga)) (by omega))) (by omega) ?_
                  refine e_Ok.ps2 (x := (0, 2)) (y := (0, z11)) (q := 135) 2 rfl ?_
                  refine e_Ok.divn (fun z42 hz42 => ?_) rfl (by omega) (by omega)
                  replace hz42 : z42 = z11 / 2 := hz42
                  have z42r : 0 ≤ z42 ∧ z42 ≤ 5 := by omega
                  refine e_Ok.aald (z := 17 * a + z42 + 97) rfl (lA1 (a := a) rfl ga) rfl (by omega) ((j31 (17 * a + 87) z42 (by unfold kGf; omega)).trans (Eq.trans (e_Has.eq hT (kA87 (a := a) rfl ga (by omega))) (by omega))) (by omega) ?_
                  refine e_Ok.ps1 (x := (1, 17 * a + z42 + 97)) (q := 138) 1 rfl ?_
                  have hgz := j35 z42 (by omega) (by omega)
                  have hrz := hr z42 (by omega) (by omega)
                  refine e_Ok.getf (z := w (17 * a + z42 + 97) 7) rfl (lJ (a := a) (j := z42) (by omega) (by omega) (by omega)) rfl rfl hgz (by omega) ?_
                  refine e_Ok.ps2 (x := (0, 2)) (y := (0, z11)) (q := 143) 2 rfl ?_
                  refine e_Ok.remn (fun z43 hz43 => ?_) rfl (by omega) (by omega)
                  replace hz43 : z43 = z11 % 2 := hz43
                  have z43r : 0 ≤ z43 ∧ z43 ≤ 1 := by omega
                  refine e_Ok.if1 rfl (fun h44 => ?_) (fun h44 => ?_)
                  · replace h44 : (z43 : Int) ≠ 0 := h44
                    refine e_Ok.ps1 (x := (0, fr)) (q := 154) 1 rfl ?_
                    refine e_Ok.neg (z := -fr) rfl (by omega) (by omega) ?_
                    refine e_Ok.add (z := w (17 * a + z42 + 97) 7 - fr) rfl (by omega) (by omega) ?_
                    refine e_Ok.putf rfl (lJ (a := a) (j := z42) (by omega) (by omega) (by omega)) rfl rfl ?_
                    generalize hw45 : e_up v2 (17 * a + z42 + 97) 9 (w (17 * a + z42 + 97) 7 - fr) = w45
                    have f46 : e_fr (kGf a) w w45 := e_fr.up j31 hw45 (by unfold kGf; omega)
                    have l47 : w45 (17 * a + 86) 8 = w (17 * a + 86) 8 := f46 (17 * a + 86) 8 (by first | exact no_cq_0 (by omega) | (unfold kGf; omega))
                    have hT48 : e_Has kTy w45 := e_Has.upr j32 hw45 (kJ_9 (a := a) (j := z42) (by omega) (by omega) (by omega)) (by omega)
                    refine e_Ok.ps2 (x := (0, (-1))) (y := (1, 17 * a + 86)) (q := 161) 2 rfl ?_
                    refine e_Ok.callV rfl (e_dq hd rfl) rfl (lA0 (a := a) rfl ga) rfl rfl (c_13 (a := a) hT48 (by omega) (by omega)) (fun r49 w50 h51 => ?_)
                    obtain ⟨rfl, q52f, q52T, q52x⟩ := h51
                    have f53 : e_fr (kGf a) w w50 := e_fr.trans f46 (e_fr.mono q52f (fun c k q => by exact gf_kBm q))
                    have l54 : w50 (17 * a + 86) 8 = w (17 * a + 86) 8 := f53 (17 * a + 86) 8 (by first | exact no_cq_0 (by omega) | (unfold kGf; omega))
                    refine e_Ok.nrm (q := 164) (st' := []) rfl rfl ?_
                    refine e_Ok.ps1 (x := (0, 1)) (q := 165) 1 rfl ?_
                    refine e_Ok.rets rfl rfl ?_
                    have hrun := (hp (by omega)).2.2.run (n := y3) (by omega) (by omega) j20 rfl
                    have eg : ∀ j, 0 ≤ j → j < w (17 * a + 86) 8 → w50 (17 * a + j + 97) 9 = w (17 * a + j + 97) 7 + dlt z11 j (y3 * w 271 y) := fun j g1 g2 => by
                      rw [q52f _ _ (by unfold kBm; omega), ← hw45]
                      by_cases e : j = z42
                      · rw [e, e_up_eq]; unfold dlt; split
                        · omega
                        · split <;> omega
                      · rw [e_up_ne _ _ (by omega), j35 j g1 (by omega)]; unfold dlt; rw [if_neg (by omega), if_neg (by omega)]; omega
                    have eo : ∀ c k, ¬ (c = 17 * a + 86 ∧ ((11 ≤ k ∧ k ≤ 13) ∨ k = 18)) → ¬ (17 * a + 97 ≤ c ∧ c ≤ 17 * a + 102 ∧ (k = 9 ∨ k = 10)) → w50 c k = w c k := fun c k g1 g2 => by rw [q52f c k (by unfold kBm; omega), ← hw45, e_up_ne _ _ (by omega)]; exact j33 c k (by omega) (by omega)
                    have e18 : w50 (17 * a + 86) 18 = p + y3 := by rw [q52f _ _ (by unfold kBm; omega), ← hw45, e_up_ne _ _ (by omega)]; exact j34
                    have e8 : w45 (17 * a + 86) 8 = w (17 * a + 86) 8 := by rw [← hw45, e_up_ne _ _ (by omega)]; exact j33 _ _ (by omega) (by omega)
                    exact ⟨_, rfl, f53, q52T, Or.inr ⟨rfl, ⟨q52x.1.1, by rw [q52x.1.2.1]; unfold kn1; decide⟩, fun j g1 g2 => ⟨by rw [eg j g1 g2]; exact hrun.2 hy3 j g1 g2, q52x.2 j g1 (by omega)⟩, by omega, by omega, by omega, by rw [e18]; exact hrun.1.eq (fun c k g1 g2 => eo c k (by omega) (by omega)) (fun j g1 g2 => ⟨eo _ _ (by omega) (by omega), eo _ _ (by omega) (by omega)⟩) (fun j g1 g2 => eg j g1 g2)⟩⟩
                  · replace h44 : (z43 : Int) = 0 := Classical.not_not.mp (show ¬ ((z43 : Int) ≠ 0) from h44)
                    refine e_Ok.ps1 (x := (0, fr)) (q := 155) 2 rfl ?_
                    refine e_Ok.add (z := w (17 * a + z42 + 97) 7 + fr) rfl rfl (by omega) ?_
                    refine e_Ok.putf rfl (lJ (a := a) (j := z42) (by omega) (by omega) (by omega)) rfl rfl ?_
                    generalize hw55 : e_up v2 (17 * a + z42 + 97) 9 (w (17 * a + z42 + 97) 7 + fr) = w55
                    have f56 : e_fr (kGf a) w w55 := e_fr.up j31 hw55 (by unfold kGf; omega)
                    have l57 : w55 (17 * a + 86) 8 = w (17 * a + 86) 8 := f56 (17 * a + 86) 8 (by first | exact no_cq_0 (by omega) | (unfold kGf; omega))
                    have hT58 : e_Has kTy w55 := e_Has.upr j32 hw55 (kJ_9 (a := a) (j := z42) (by omega) (by omega) (by omega)) (by omega)
                    refine e_Ok.ps2 (x := (0, (-1))) (y := (1, 17 * a + 86)) (q := 161) 2 rfl ?_
                    refine e_Ok.callV rfl (e_dq hd rfl) rfl (lA0 (a := a) rfl ga) rfl rfl (c_13 (a := a) hT58 (by omega) (by omega)) (fun r59 w60 h61 => ?_)
                    obtain ⟨rfl, q62f, q62T, q62x⟩ := h61
                    have f63 : e_fr (kGf a) w w60 := e_fr.trans f56 (e_fr.mono q62f (fun c k q => by exact gf_kBm q))
                    have l64 : w60 (17 * a + 86) 8 = w (17 * a + 86) 8 := f63 (17 * a + 86) 8 (by first | exact no_cq_0 (by omega) | (unfold kGf; omega))
                    refine e_Ok.nrm (q := 164) (st' := []) rfl rfl ?_
                    refine e_Ok.ps1 (x := (0, 1)) (q := 165) 1 rfl ?_
                    refine e_Ok.rets rfl rfl ?_
                    have hrun := (hp (by omega)).2.2.run (n := y3) (by omega) (by omega) j20 rfl
                    have eg : ∀ j, 0 ≤ j → j < w (17 * a + 86) 8 → w60 (17 * a + j + 97) 9 = w (17 * a + j + 97) 7 + dlt z11 j (y3 * w 271 y) := fun j g1 g2 => by
                      rw [q62f _ _ (by unfold kBm; omega), ← hw55]
                      by_cases e : j = z42
                      · rw [e, e_up_eq]; unfold dlt; split
                        · omega
                        · split <;> omega
                      · rw [e_up_ne _ _ (by omega), j35 j g1 (by omega)]; unfold dlt; rw [if_neg (by omega), if_neg (by omega)]; omega
                    have eo : ∀ c k, ¬ (c = 17 * a + 86 ∧ ((11 ≤ k ∧ k ≤ 13) ∨ k = 18)) → ¬ (17 * a + 97 ≤ c ∧ c ≤ 17 * a + 102 ∧ (k = 9 ∨ k = 10)) → w60 c k = w c k := fun c k g1 g2 => by rw [q62f c k (by unfold kBm; omega), ← hw55, e_up_ne _ _ (by omega)]; exact j33 c k (by omega) (by omega)
                    have e18 : w60 (17 * a + 86) 18 = p + y3 := by rw [q62f _ _ (by unfold kBm; omega), ← hw55, e_up_ne _ _ (by omega)]; exact j34
                    have e8 : w55 (17 * a + 86) 8 = w (17 * a + 86) 8 := by rw [← hw55, e_up_ne _ _ (by omega)]; exact j33 _ _ (by omega) (by omega)
                    exact ⟨_, rfl, f63, q62T, Or.inr ⟨rfl, ⟨q62x.1.1, by rw [q62x.1.2.1]; unfold kn1; decide⟩, fun j g1 g2 => ⟨by rw [eg j g1 g2]; exact hrun.2 hy3 j g1 g2, q62x.2 j g1 (by omega)⟩, by omega, by omega, by omega, by rw [e18]; exact hrun.1.eq (fun c k g1 g2 => eo c k (by omega) (by omega)) (fun j g1 g2 => ⟨eo _ _ (by omega) (by omega), eo _ _ (by omega) (by omega)⟩) (fun j g1 g2 => eg j g1 g2)⟩⟩
                · replace h41 : (y4 : Int) < w (17 * a + 86) 8 := Int.not_le.mp (show ¬ ((y4 : Int) ≥ w (17 * a + 86) 8) from h41)
                  refine e_Ok.ps1 (x := (1, 17 * a + 86)) (q := 91) 1 rfl ?_
                  refine e_Ok.getr (z := 17 * a + 87) rfl (lA0 (a := a) rfl ga) rfl rfl ((j31 (17 * a + 86) 0 (by first | exact no_cq_3 (by omega) | (unfold kGf; omega))).trans (Eq.trans (e_Has.eq hT (kA_0 (a := a) rfl ga)) (by omega))) (by omega) ?_
                  refine e_Ok.ps1 (x := (0, y4)) (q := 96) 1 rfl ?_
                  refine e_Ok.aald (z := 17 * a + y4 + 97) rfl (lA1 (a := a) rfl ga) rfl (by omega) ((j31 (17 * a + 87) y4 (by unfold kGf; omega)).trans (Eq.trans (e_Has.eq hT (kA87 (a := a) rfl ga (by omega))) (by omega))) (by omega) ?_
                  refine e_Ok.ps1 (x := (1, 17 * a + 86)) (q := 98) 1 rfl ?_
                  refine e_Ok.getr (z := 17 * a + 87) rfl (lA0 (a := a) rfl ga) rfl rfl ((j31 (17 * a + 86) 0 (by first | exact no_cq_3 (by omega) | (unfold kGf; omega))).trans (Eq.trans (e_Has.eq hT (kA_0 (a := a) rfl ga)) (by omega))) (by omega) ?_
                  refine e_Ok.ps1 (x := (0, y4)) (q := 103) 1 rfl ?_
                  refine e_Ok.aald (z := 17 * a + y4 + 97) rfl (lA1 (a := a) rfl ga) rfl (by omega) ((j31 (17 * a + 87) y4 (by unfold kGf; omega)).trans (Eq.trans (e_Has.eq hT (kA87 (a := a) rfl ga (by omega))) (by omega))) (by omega) ?_
                  have h65 := (e_Has.get hT (c := 17 * a + y4 + 97) (k := 7) (lo := (-2147483648)) (hi := 2147483647) (kJ_7 (a := a) (j := y4) (by omega) (by omega) (by omega)) (by decide))
                  refine e_Ok.getf (z := w (17 * a + y4 + 97) 7) rfl (lJ (a := a) (j := y4) (by omega) (by omega) (by omega)) rfl rfl ((j31 (17 * a + y4 + 97) 7 (by unfold kGf; omega)).trans rfl) (e_bq h65 (by decide) (by decide)) ?_
                  refine e_Ok.putf rfl (lJ (a := a) (j := y4) (by omega) (by omega) (by omega)) rfl rfl ?_
                  generalize hw66 : e_up v2 (17 * a + y4 + 97) 9 (w (17 * a + y4 + 97) 7) = w66
                  have f67 : e_fr (kGf a) w w66 := e_fr.up j31 hw66 (by unfold kGf; omega)
                  have l68 : w66 (17 * a + 86) 8 = w (17 * a + 86) 8 := f67 (17 * a + 86) 8 (by first | exact no_cq_0 (by omega) | (unfold kGf; omega))
                  have hT69 : e_Has kTy w66 := e_Has.upr j32 hw66 (kJ_9 (a := a) (j := y4) (by omega) (by omega) (by omega)) (by omega)
                  refine e_Ok.inc (z := y4 + 1) rfl rfl (by first | with_reducible rfl | omega) (by omega) ?_
                  show e_Ok 20 elay kcode eI (d + 1) 108 (113, [(4, (0, y4 + 1)), (0, (1, 262)), (1, (1, 17 * a + 86)), (2, (0, z11)), (3, (0, y3))], [], w66) _
                  refine e_Ok.ps0 (q := 81) 1 rfl ?_
                  refine e_Ok.sub kAlk (e_sub_of rfl ?_) (ih30 (y4 + 1) w66 ⟨f67, hT69, (fun c k g1 g2 => by rw [← hw66, e_up_ne _ _ (by omega)]; exact j33 c k g1 g2), (by rw [← hw66, e_up_ne _ _ (by omega)]; exact j34), (fun j g1 g2 => by rw [← hw66]; by_cases e : j = y4; (rw [e, e_up_eq]); (rw [e_up_ne _ _ (by omega)]; exact j35 j g1 (by omega))), by omega, by omega⟩ (by omega))
                  exact ⟨rfl, rfl, rfl, rfl, rfl, trivial⟩
            refine e_Ok.sub kAlk (e_sub_of rfl ?_) (hL29 (6 + 1 : Int).toNat 0 v1 ⟨j15, j16, (fun c k g1 _ => j17 c k g1), j18, (fun j g1 g2 => by omega), by omega, by omega⟩ (by omega))
            exact ⟨rfl, rfl, rfl, rfl, rfl, trivial⟩
          · replace h28 : (z26 : Int) = z11 := Classical.not_not.mp (show ¬ ((z26 : Int) ≠ z11) from h28)
            refine e_Ok.ps2 (x := (0, 1000)) (y := (0, y3)) (q := 59) 2 rfl ?_
            refine e_Ok.if2 rfl (fun h70 => ?_) (fun h70 => ?_)
            · replace h70 : (y3 : Int) ≥ 1000 := h70
              have hy3 : 1 ≤ y3 := by
                by_cases g : y3 = 0
                · exfalso; have g2 := hz1 (by omega); rw [g, show p + 0 = p by omega] at g2; omega
                · omega
              clear hz1 hz2
              refine e_Ok.run (t' := (81, [(4, (0, 0)), (0, (1, 262)), (1, (1, 17 * a + 86)), (2, (0, z11)), (3, (0, y3))], [], v1)) 2 rfl ?_
              have hL71 : ∀ (nn : Nat) (y4 : Int) (v2 : eW), e_fr (kGf a) w v2 ∧ e_Has kTy v2 ∧ (∀ c k, ¬ (c = 17 * a + 86 ∧ k = 18) → ¬ (17 * a + 97 ≤ c ∧ c ≤ 17 * a + 102 ∧ k = 9) → v2 c k = w c k) ∧ v2 (17 * a + 86) 18 = p + y3 ∧ (∀ j, 0 ≤ j → j < y4 → v2 (17 * a + j + 97) 9 = w (17 * a + j + 97) 7) ∧ y4 ≤ w (17 * a + 86) 8 ∧ (0 ≤ y4 ∧ y4 ≤ 6) → 6 - y4 < nn → e_Ok 20 elay kcode eI (d + 1) 108 (81, [(0, (1, 262)), (1, (1, 17 * a + 86)), (2, (0, z11)), (3, (0, y3)), (4, (0, y4))], [], v2) (fun r w' => ∃ z : Int, r = [(0, z)] ∧ e_fr (kGf a) w w' ∧ e_Has kTy w' ∧ ((z = 0 ∧ w' = w ∧ (p < 0 ∨ w 270 y ≤ p)) ∨ (z = 1 ∧ (w' (17 * a + 86) 11 = 1 ∧ kn1 (w' (17 * a + 86) 12)) ∧ (∀ j, 0 ≤ j → j < w (17 * a + 86) 8 → (w (17 * a + j + 97) 1 ≤ w' (17 * a + j + 97) 9 ∧ w' (17 * a + j + 97) 9 ≤ w (17 * a + j + 97) 2) ∧ kn1 (w' (17 * a + j + 97) 10)) ∧ 0 ≤ y ∧ 0 ≤ w' (17 * a + 86) 18 ∧ w' (17 * a + 86) 18 ≤ w 270 y ∧ yP w' a (w (17 * a + 86) 8) y (w' (17 * a + 86) 18) (fun j => w' (17 * a + j + 97) 9)))) := by
                intro nn
                induction nn with
                | zero => intro y4 v2 hj hm; obtain ⟨j73, j74, j75, j76, j77, j78, j79⟩ := hj; exfalso; omega
                | succ nn ih72 =>
                  intro y4 v2 hj hm
                  obtain ⟨j73, j74, j75, j76, j77, j78, j79⟩ := hj
                  have l80 : v2 (17 * a + 86) 8 = w (17 * a + 86) 8 := j73 (17 * a + 86) 8 (by first | exact no_cq_0 (by omega) | (unfold kGf; omega))
                  refine e_Ok.run (t' := (84, [(0, (1, 262)), (1, (1, 17 * a + 86)), (2, (0, z11)), (3, (0, y3)), (4, (0, y4))], [(1, 17 * a + 86), (0, y4)], v2)) 2 rfl ?_
                  have h81 := (e_Has.get hT (c := 17 * a + 86) (k := 8) (lo := 0) (hi := 6) (kA_8 (a := a) rfl ga) (by decide))
                  refine e_Ok.getf (z := w (17 * a + 86) 8) rfl (lA0 (a := a) rfl ga) rfl rfl ((j73 (17 * a + 86) 8 (by first | exact no_cq_0 (by omega) | (unfold kGf; omega))).trans rfl) (e_bq h81 (by decide) (by decide)) ?_
                  refine e_Ok.if2 rfl (fun h82 => ?_) (fun h82 => ?_)
                  · replace h82 : (y4 : Int) ≥ w (17 * a + 86) 8 := h82
                    have hwd := (hy (by omega)).2.1
                    have e271 : v2 271 y = w 271 y := j75 _ _ (by omega) (by omega)
                    have hmul : 0 ≤ y3 * w 271 y ∧ y3 * w 271 y ≤ 16000 := ⟨Int.mul_nonneg (by omega) (by omega), by have g := Int.mul_le_mul (show y3 ≤ 1000 by omega) (show w 271 y ≤ 16 by omega) (by omega) (by decide); omega⟩
                    refine e_Ok.ps2 (x := (1, 262)) (y := (0, y3)) (q := 118) 2 rfl ?_
                    refine e_Ok.getr (z := 271) rfl (el_o rfl) rfl rfl ((j73 262 12 (by first | exact no_cq_2 (by omega) | (unfold kGf; omega))).trans (e_Has.eq hT (kt_o rfl))) ⟨by decide, by decide⟩ ?_
                    refine e_Ok.ps1 (x := (1, 17 * a + 86)) (q := 122) 1 rfl ?_
                    refine e_Ok.getf (z := y) rfl (lA0 (a := a) rfl ga) rfl rfl ((j73 (17 * a + 86) 17 (by first | exact no_cq_1 (by omega) | (unfold kGf; omega))).trans hY) (by omega) ?_
                    refine e_Ok.ald (z := w 271 y) rfl (el_o rfl) rfl (by omega) ((j73 271 y (by unfold kGf; omega)).trans rfl) (by omega) ?_
                    refine e_Ok.mul (z := y3 * (w 271 y)) rfl (by omega) (by omega) ?_
                    generalize hfr : y3 * (w 271 y) = fr at hmul ⊢
                    refine e_Ok.run (t' := (130, [(4, (0, fr)), (0, (1, 262)), (1, (1, 17 * a + 86)), (2, (0, z11)), (3, (0, y3))], [(1, 17 * a + 86)], v2)) 2 rfl ?_
                    refine e_Ok.getr (z := 17 * a + 87) rfl (lA0 (a := a) rfl ga) rfl rfl ((j73 (17 * a + 86) 0 (by first | exact no_cq_3 (by omega) | (unfold kGf; omega))).trans (Eq.trans (e_Has.eq hT (kA_0 (a := a) rfl ga)) (by omega))) (by omega) ?_
                    refine e_Ok.ps2 (x := (0, 2)) (y := (0, z11)) (q := 135) 2 rfl ?_
                    refine e_Ok.divn (fun z83 hz83 => ?_) rfl (by omega) (by omega)
                    replace hz83 : z83 = z11 / 2 := hz83
                    have z83r : 0 ≤ z83 ∧ z83 ≤ 5 := by omega
                    refine e_Ok.aald (z := 17 * a + z83 + 97) rfl (lA1 (a := a) rfl ga) rfl (by omega) ((j73 (17 * a + 87) z83 (by unfold kGf; omega)).trans (Eq.trans (e_Has.eq hT (kA87 (a := a) rfl ga (by omega))) (by omega))) (by omega) ?_
                    refine e_Ok.ps1 (x := (1, 17 * a + z83 + 97)) (q := 138) 1 rfl ?_
                    have hgz := j77 z83 (by omega) (by omega)
                    have hrz := hr z83 (by omega) (by omega)
                    refine e_Ok.getf (z := w (17 * a + z83 + 97) 7) rfl (lJ (a := a) (j := z83) (by omega) (by omega) (by omega)) rfl rfl hgz (by omega) ?_
                    refine e_Ok.ps2 (x := (0, 2)) (y := (0, z11)) (q := 143) 2 rfl ?_
                    refine e_Ok.remn (fun z84 hz84 => ?_) rfl (by omega) (by omega)
                    replace hz84 : z84 = z11 % 2 := hz84
                    have z84r : 0 ≤ z84 ∧ z84 ≤ 1 := by omega
                    refine e_Ok.if1 rfl (fun h85 => ?_) (fun h85 => ?_)
                    · replace h85 : (z84 : Int) ≠ 0 := h85
                      refine e_Ok.ps1 (x := (0, fr)) (q := 154) 1 rfl ?_
                      refine e_Ok.neg (z := -fr) rfl (by omega) (by omega) ?_
                      refine e_Ok.add (z := w (17 * a + z83 + 97) 7 - fr) rfl (by omega) (by omega) ?_
                      refine e_Ok.putf rfl (lJ (a := a) (j := z83) (by omega) (by omega) (by omega)) rfl rfl ?_
                      generalize hw86 : e_up v2 (17 * a + z83 + 97) 9 (w (17 * a + z83 + 97) 7 - fr) = w86
                      have f87 : e_fr (kGf a) w w86 := e_fr.up j73 hw86 (by unfold kGf; omega)
                      have l88 : w86 (17 * a + 86) 8 = w (17 * a + 86) 8 := f87 (17 * a + 86) 8 (by first | exact no_cq_0 (by omega) | (unfold kGf; omega))
                      have hT89 : e_Has kTy w86 := e_Has.upr j74 hw86 (kJ_9 (a := a) (j := z83) (by omega) (by omega) (by omega)) (by omega)
                      refine e_Ok.ps2 (x := (0, (-1))) (y := (1, 17 * a + 86)) (q := 161) 2 rfl ?_
                      refine e_Ok.callV rfl (e_dq hd rfl) rfl (lA0 (a := a) rfl ga) rfl rfl (c_13 (a := a) hT89 (by omega) (by omega)) (fun r90 w91 h92 => ?_)
                      obtain ⟨rfl, q93f, q93T, q93x⟩ := h92
                      have f94 : e_fr (kGf a) w w91 := e_fr.trans f87 (e_fr.mono q93f (fun c k q => by exact gf_kBm q))
                      have l95 : w91 (17 * a + 86) 8 = w (17 * a + 86) 8 := f94 (17 * a + 86) 8 (by first | exact no_cq_0 (by omega) | (unfold kGf; omega))
                      refine e_Ok.nrm (q := 164) (st' := []) rfl rfl ?_
                      refine e_Ok.ps1 (x := (0, 1)) (q := 165) 1 rfl ?_
                      refine e_Ok.rets rfl rfl ?_
                      have hrun := (hp (by omega)).2.2.run (n := y3) (by omega) (by omega) j20 rfl
                      have eg : ∀ j, 0 ≤ j → j < w (17 * a + 86) 8 → w91 (17 * a + j + 97) 9 = w (17 * a + j + 97) 7 + dlt z11 j (y3 * w 271 y) := fun j g1 g2 => by
                        rw [q93f _ _ (by unfold kBm; omega), ← hw86]
                        by_cases e : j = z83
                        · rw [e, e_up_eq]; unfold dlt; split
                          · omega
                          · split <;> omega
                        · rw [e_up_ne _ _ (by omega), j77 j g1 (by omega)]; unfold dlt; rw [if_neg (by omega), if_neg (by omega)]; omega
                      have eo : ∀ c k, ¬ (c = 17 * a + 86 ∧ ((11 ≤ k ∧ k ≤ 13) ∨ k = 18)) → ¬ (17 * a + 97 ≤ c ∧ c ≤ 17 * a + 102 ∧ (k = 9 ∨ k = 10)) → w91 c k = w c k := fun c k g1 g2 => by rw [q93f c k (by unfold kBm; omega), ← hw86, e_up_ne _ _ (by omega)]; exact j75 c k (by omega) (by omega)
                      have e18 : w91 (17 * a + 86) 18 = p + y3 := by rw [q93f _ _ (by unfold kBm; omega), ← hw86, e_up_ne _ _ (by omega)]; exact j76
                      have e8 : w86 (17 * a + 86) 8 = w (17 * a + 86) 8 := by rw [← hw86, e_up_ne _ _ (by omega)]; exact j75 _ _ (by omega) (by omega)
                      exact ⟨_, rfl, f94, q93T, Or.inr ⟨rfl, ⟨q93x.1.1, by rw [q93x.1.2.1]; unfold kn1; decide⟩, fun j g1 g2 => ⟨by rw [eg j g1 g2]; exact hrun.2 hy3 j g1 g2, q93x.2 j g1 (by omega)⟩, by omega, by omega, by omega, by rw [e18]; exact hrun.1.eq (fun c k g1 g2 => eo c k (by omega) (by omega)) (fun j g1 g2 => ⟨eo _ _ (by omega) (by omega), eo _ _ (by omega) (by omega)⟩) (fun j g1 g2 => eg j g1 g2)⟩⟩
                    · replace h85 : (z84 : Int) = 0 := Classical.not_not.mp (show ¬ ((z84 : Int) ≠ 0) from h85)
                      refine e_Ok.ps1 (x := (0, fr)) (q := 155) 2 rfl ?_
                      refine e_Ok.add (z := w (17 * a + z83 + 97) 7 + fr) rfl rfl (by omega) ?_
                      refine e_Ok.putf rfl (lJ (a := a) (j := z83) (by omega) (by omega) (by omega)) rfl rfl ?_
                      generalize hw101 : e_up v2 (17 * a + z83 + 97) 9 (w (17 * a + z83 + 97) 7 + fr) = w101
                      have f103 : e_fr (kGf a) w w101 := e_fr.up j73 hw101 (by unfold kGf; omega)
                      have l104 : w101 (17 * a + 86) 8 = w (17 * a + 86) 8 := f103 (17 * a + 86) 8 (by first | exact no_cq_0 (by omega) | (unfold kGf; omega))
                      have hT105 : e_Has kTy w101 := e_Has.upr j74 hw101 (kJ_9 (a := a) (j := z83) (by omega) (by omega) (by omega)) (by omega)
                      refine e_Ok.ps2 (x := (0, (-1))) (y := (1, 17 * a + 86)) (q := 161) 2 rfl ?_
                      refine e_Ok.callV rfl (e_dq hd rfl) rfl (lA0 (a := a) rfl ga) rfl rfl (c_13 (a := a) hT105 (by omega) (by omega)) (fun r106 w107 h108 => ?_)
                      obtain ⟨rfl, q109f, q109T, q109x⟩ := h108
                      have f110 : e_fr (kGf a) w w107 := e_fr.trans f103 (e_fr.mono q109f (fun c k q => by exact gf_kBm q))
                      have l111 : w107 (17 * a + 86) 8 = w (17 * a + 86) 8 := f110 (17 * a + 86) 8 (by first | exact no_cq_0 (by omega) | (unfold kGf; omega))
                      refine e_Ok.nrm (q := 164) (st' := []) rfl rfl ?_
                      refine e_Ok.ps1 (x := (0, 1)) (q := 165) 1 rfl ?_
                      refine e_Ok.rets rfl rfl ?_
                      have hrun := (hp (by omega)).2.2.run (n := y3) (by omega) (by omega) j20 rfl
                      have eg : ∀ j, 0 ≤ j → j < w (17 * a + 86) 8 → w107 (17 * a + j + 97) 9 = w (17 * a + j + 97) 7 + dlt z11 j (y3 * w 271 y) := fun j g1 g2 => by
                        rw [q109f _ _ (by unfold kBm; omega), ← hw101]
                        by_cases e : j = z83
                        · rw [e, e_up_eq]; unfold dlt; split
                          · omega
                          · split <;> omega
                        · rw [e_up_ne _ _ (by omega), j77 j g1 (by omega)]; unfold dlt; rw [if_neg (by omega), if_neg (by omega)]; omega
                      have eo : ∀ c k, ¬ (c = 17 * a + 86 ∧ ((11 ≤ k ∧ k ≤ 13) ∨ k = 18)) → ¬ (17 * a + 97 ≤ c ∧ c ≤ 17 * a + 102 ∧ (k = 9 ∨ k = 10)) → w107 c k = w c k := fun c k g1 g2 => by rw [q109f c k (by unfold kBm; omega), ← hw101, e_up_ne _ _ (by omega)]; exact j75 c k (by omega) (by omega)
                      have e18 : w107 (17 * a + 86) 18 = p + y3 := by rw [q109f _ _ (by unfold kBm; omega), ← hw101, e_up_ne _ _ (by omega)]; exact j76
                      have e8 : w101 (17 * a + 86) 8 = w (17 * a + 86) 8 := by rw [← hw101, e_up_ne _ _ (by omega)]; exact j75 _ _ (by omega) (by omega)
                      exact ⟨_, rfl, f110, q109T, Or.inr ⟨rfl, ⟨q109x.1.1, by rw [q109x.1.2.1]; unfold kn1; decide⟩, fun j g1 g2 => ⟨by rw [eg j g1 g2]; exact hrun.2 hy3 j g1 g2, q109x.2 j g1 (by omega)⟩, by omega, by omega, by omega, by rw [e18]; exact hrun.1.eq (fun c k g1 g2 => eo c k (by omega) (by omega)) (fun j g1 g2 => ⟨eo _ _ (by omega) (by omega), eo _ _ (by omega) (by omega)⟩) (fun j g1 g2 => eg j g1 g2)⟩⟩
                  · replace h82 : (y4 : Int) < w (17 * a + 86) 8 := Int.not_le.mp (show ¬ ((y4 : Int) ≥ w (17 * a + 86) 8) from h82)
                    refine e_Ok.ps1 (x := (1, 17 * a + 86)) (q := 91) 1 rfl ?_
                    refine e_Ok.getr (z := 17 * a + 87) rfl (lA0 (a := a) rfl ga) rfl rfl ((j73 (17 * a + 86) 0 (by first | exact no_cq_3 (by omega) | (unfold kGf; omega))).trans (Eq.trans (e_Has.eq hT (kA_0 (a := a) rfl ga)) (by omega))) (by omega) ?_
                    refine e_Ok.ps1 (x := (0, y4)) (q := 96) 1 rfl ?_
                    refine e_Ok.aald (z := 17 * a + y4 + 97) rfl (lA1 (a := a) rfl ga) rfl (by omega) ((j73 (17 * a + 87) y4 (by unfold kGf; omega)).trans (Eq.trans (e_Has.eq hT (kA87 (a := a) rfl ga (by omega))) (by omega))) (by omega) ?_
                    refine e_Ok.ps1 (x := (1, 17 * a + 86)) (q := 98) 1 rfl ?_
                    refine e_Ok.getr (z := 17 * a + 87) rfl (lA0 (a := a) rfl ga) rfl rfl ((j73 (17 * a + 86) 0 (by first | exact no_cq_3 (by omega) | (unfold kGf; omega))).trans (Eq.trans (e_Has.eq hT (kA_0 (a := a) rfl ga)) (by omega))) (by omega) ?_
                    refine e_Ok.ps1 (x := (0, y4)) (q := 103) 1 rfl ?_
                    refine e_Ok.aald (z := 17 * a + y4 + 97) rfl (lA1 (a := a) rfl ga) rfl (by omega) ((j73 (17 * a + 87) y4 (by unfold kGf; omega)).trans (Eq.trans (e_Has.eq hT (kA87 (a := a) rfl ga (by omega))) (by omega))) (by omega) ?_
                    have h112 := (e_Has.get hT (c := 17 * a + y4 + 97) (k := 7) (lo := (-2147483648)) (hi := 2147483647) (kJ_7 (a := a) (j := y4) (by omega) (by omega) (by omega)) (by decide))
                    refine e_Ok.getf (z := w (17 * a + y4 + 97) 7) rfl (lJ (a := a) (j := y4) (by omega) (by omega) (by omega)) rfl rfl ((j73 (17 * a + y4 + 97) 7 (by unfold kGf; omega)).trans rfl) (e_bq h112 (by decide) (by decide)) ?_
                    refine e_Ok.putf rfl (lJ (a := a) (j := y4) (by omega) (by omega) (by omega)) rfl rfl ?_
                    generalize hw113 : e_up v2 (17 * a + y4 + 97) 9 (w (17 * a + y4 + 97) 7) = w113
                    have f114 : e_fr (kGf a) w w113 := e_fr.up j73 hw113 (by unfold kGf; omega)
                    have l115 : w113 (17 * a + 86) 8 = w (17 * a + 86) 8 := f114 (17 * a + 86) 8 (by first | exact no_cq_0 (by omega) | (unfold kGf; omega))
                    have hT116 : e_Has kTy w113 := e_Has.upr j74 hw113 (kJ_9 (a := a) (j := y4) (by omega) (by omega) (by omega)) (by omega)
                    refine e_Ok.inc (z := y4 + 1) rfl rfl (by first | with_reducible rfl | omega) (by omega) ?_
                    show e_Ok 20 elay kcode eI (d + 1) 108 (113, [(4, (0, y4 + 1)), (0, (1, 262)), (1, (1, 17 * a + 86)), (2, (0, z11)), (3, (0, y3))], [], w113) _
                    refine e_Ok.ps0 (q := 81) 1 rfl ?_
                    refine e_Ok.sub kAlk (e_sub_of rfl ?_) (ih72 (y4 + 1) w113 ⟨f114, hT116, (fun c k g1 g2 => by rw [← hw113, e_up_ne _ _ (by omega)]; exact j75 c k g1 g2), (by rw [← hw113, e_up_ne _ _ (by omega)]; exact j76), (fun j g1 g2 => by rw [← hw113]; by_cases e : j = y4; (rw [e, e_up_eq]); (rw [e_up_ne _ _ (by omega)]; exact j77 j g1 (by omega))), by omega, by omega⟩ (by omega))
                    exact ⟨rfl, rfl, rfl, rfl, rfl, trivial⟩
              refine e_Ok.sub kAlk (e_sub_of rfl ?_) (hL71 (6 + 1 : Int).toNat 0 v1 ⟨j15, j16, (fun c k g1 _ => j17 c k g1), j18, (fun j g1 g2 => by omega), by omega, by omega⟩ (by omega))
              exact ⟨rfl, rfl, rfl, rfl, rfl, trivial⟩
            · replace h70 : (y3 : Int) < 1000 := Int.not_le.mp (show ¬ ((y3 : Int) ≥ 1000) from h70)
              refine e_Ok.inc (z := y3 + 1) rfl rfl (by first | with_reducible rfl | omega) (by omega) ?_
              show e_Ok 20 elay kcode eI (d + 1) 108 (65, [(3, (0, y3 + 1)), (0, (1, 262)), (1, (1, 17 * a + 86)), (2, (0, z11))], [], v1) _
              refine e_Ok.ps2 (x := (1, 17 * a + 86)) (y := (1, 17 * a + 86)) (q := 67) 2 rfl ?_
              refine e_Ok.getf (z := p + y3) rfl (lA0 (a := a) rfl ga) rfl rfl j18 (by omega) ?_
              refine e_Ok.ps1 (x := (0, 1)) (q := 71) 1 rfl ?_
              refine e_Ok.add (z := p + y3 + 1) rfl rfl (by omega) ?_
              refine e_Ok.putf rfl (lA0 (a := a) rfl ga) rfl rfl ?_
              generalize hw117 : e_up v1 (17 * a + 86) 18 (p + y3 + 1) = w117
              have f118 : e_fr (kGf a) w w117 := e_fr.up j15 hw117 (by first | exact Or.inl ⟨(by omega), Or.inr rfl⟩ | (unfold kGf; omega))
              have l119 : w117 (17 * a + 86) 8 = w (17 * a + 86) 8 := f118 (17 * a + 86) 8 (by first | exact no_cq_0 (by omega) | (unfold kGf; omega))
              have hT120 : e_Has kTy w117 := e_Has.upr j16 hw117 (kA_18 (a := a) rfl ga) (by omega)
              refine e_Ok.ps0 (q := 39) 1 rfl ?_
              refine e_Ok.sub kAlk (e_sub_of rfl ?_) (ih14 (y3 + 1) w117 ⟨f118, hT120, (fun c k g1 => by rw [← hw117, e_up_ne _ _ (by omega)]; exact j17 c k g1), (by rw [← hw117, e_up_eq]; omega), by omega, (fun i g1 g2 => if e : i = y3 then by rw [e]; have g := hz1 (by omega); omega else j20 i g1 (by omega)), by omega⟩ (by omega))
              exact ⟨rfl, rfl, rfl, rfl, trivial⟩
      refine e_Ok.sub kAlk (e_sub_of rfl ?_) (hL13 (1000 + 1 : Int).toNat 0 w ⟨(e_fr.refl w), hT, (fun _ _ _ => rfl), by omega, by omega, (fun i g1 g2 => by omega), by omega⟩ (by omega))
      exact ⟨rfl, rfl, rfl, rfl, trivial⟩
    · replace h7 : (p : Int) ≥ z5 := Int.not_lt.mp (show ¬ ((p : Int) < z5) from h7)
      refine e_Ok.ps1 (x := (0, 0)) (q := 23) 1 rfl ?_
      refine e_Ok.rets rfl rfl ?_
      exact ⟨_, rfl, e_fr.refl w, hT, Or.inl ⟨rfl, rfl, by omega⟩⟩
end
end
-- part cr
section
noncomputable section
/-! the class: a move ends -/
theorem kHv_no (c k : Int) (h : kHv c k) : kTy c k = (1, 0) := by
  rcases h with ⟨rfl, -, -⟩ | ⟨rfl, h1, h2⟩
  · rfl
  · obtain rfl | rfl | rfl | rfl : k = 13 ∨ k = 14 ∨ k = 15 ∨ k = 16 := by omega
    all_goals rfl
theorem hm_kHv {c k : Int} (h : kHv c k) : kHm c k := by
  rcases h with ⟨rfl, -, -⟩ | ⟨rfl, h1, h2⟩
  · unfold kHm; simp
  · unfold kHm; simp [h1, h2]
theorem kTy.hk {w w' : eW} (hT : e_Has kTy w) (hw : e_hk w = w') : e_Has kTy w' := by rw [← hw]; exact hT.fr kHv_no (e_hk_fr w)
section Kr
variable {w w' : eW} {OP OD CL : Int → Int → Int} {h t0 : Int}
theorem kI.hk (q : kI w OP OD CL h t0) (hw : e_hk w = w') : kI w' OP OD CL h t0 := q.hm (kTy.hk q.1 hw) (by rw [← hw]; exact (e_hk_fr w).mono (fun c k g => hm_kHv g))
/-- the next move of a travel -/
theorem aR.further {a : Int} (ha : 0 ≤ a ∧ a ≤ 3) (hn : w (17 * a + 86) 8 ≤ 6) (hf : ∀ c k, dA a c k → ¬ kGf a c k → w' c k = w c k) (hs : ∀ i, 0 ≤ i → i < w (17 * a + 86) 8 → w (17 * a + i + 97) 8 = 0) (h1 : w' (17 * a + 86) 11 = 1) (h2 : kn1 (w' (17 * a + 86) 12)) (hg : ∀ j, 0 ≤ j → j < w (17 * a + 86) 8 → (w (17 * a + j + 97) 1 ≤ w' (17 * a + j + 97) 9 ∧ w' (17 * a + j + 97) 9 ≤ w (17 * a + j + 97) 2) ∧ kn1 (w' (17 * a + j + 97) 10)) (hy : 0 ≤ w (17 * a + 86) 17) (h18 : w' (17 * a + 86) 18 ≤ w 270 (w (17 * a + 86) 17)) (hp : yP w' a (w (17 * a + 86) 8) (w (17 * a + 86) 17) (w' (17 * a + 86) 18) (fun j => w' (17 * a + j + 97) 9)) (q : aR w a) : aR w' a := by
  obtain ⟨q1, q2, q3, q4, q5, q6⟩ := q
  have e8 : w' (17 * a + 86) 8 = w (17 * a + 86) 8 := hf _ _ (by unfold dA; omega) (by unfold kGf; omega)
  refine ⟨q1.eq (fun c k g => hf c k (by unfold dA; omega) (by unfold kGf; omega)), q2.eq (fun c k g => hf c k (by unfold dA; omega) (by unfold kGf; omega)), ?_, ?_, q5.eq (fun c k g => hf c k (by unfold dA; omega) (by unfold kGf; omega)), ?_⟩
  · rw [e8, h1]
    intro i g1 g2
    have qi := q3 i g1 g2
    have ek : ∀ k, 1 ≤ k → k ≤ 8 → w' (17 * a + i + 97) k = w (17 * a + i + 97) k := fun k g3 g4 => hf _ _ (by unfold dA; omega) (by unfold kGf; omega)
    refine ⟨?_, ?_⟩
    · have := qi.1
      unfold jC at this ⊢
      rw [ek 1 (by omega) (by omega), ek 2 (by omega) (by omega), ek 5 (by omega) (by omega), ek 6 (by omega) (by omega)]
      exact this
    · have hm := qi.2.1
      unfold jM joOk
      rw [ek 1 (by omega) (by omega), ek 2 (by omega) (by omega), ek 7 (by omega) (by omega), ek 8 (by omega) (by omega), hs i g1 g2]
      exact ⟨hm, fun g => absurd g (by decide), fun _ => ⟨(hg i g1 g2).1, fun _ g => absurd g (by decide), fun g => absurd g (by decide)⟩, fun g => absurd g (by decide)⟩
  · intro _
    rw [e8]
    exact ⟨h2, fun j g1 g2 => (hg j g1 g2).2⟩
  · have hp2 : ∀ c k, 269 ≤ c → c ≤ 271 → w' c k = w c k := fun c k g1 g2 => hf c k (by unfold dA; omega) (by unfold kGf; omega)
    have e17 : w' (17 * a + 86) 17 = w (17 * a + 86) 17 := hf _ _ (by unfold dA; omega) (by unfold kGf; omega)
    have e19 : w' (17 * a + 86) 19 = w (17 * a + 86) 19 := hf _ _ (by unfold dA; omega) (by unfold kGf; omega)
    unfold aW at q6 ⊢
    rw [e8, e17, e19, hp2 270 _ (by decide) (by decide)]
    exact ⟨fun g => (q6.1 g).eq hp2, fun g1 g2 => (q6.2.1 g1 g2).eq hp2 (fun j g1 g2 => ⟨hf _ _ (by unfold dA; omega) (by unfold kGf; omega), hf _ _ (by unfold dA; omega) (by unfold kGf; omega)⟩) (fun j g3 g4 => hf _ _ (by unfold dA; omega) (by unfold kGf; omega)), fun _ => ⟨h1, hy, h18, hp⟩⟩
theorem ah_kGf {a c k : Int} (g : kGf a c k) : kAh a c k := by
  unfold kGf at g
  rcases g with g | g
  · exact Or.inr (Or.inr (Or.inr (Or.inl ⟨g.1, by omega⟩)))
  · exact Or.inr (Or.inr (Or.inr (Or.inr (Or.inr ⟨g.1, g.2.1⟩))))
theorem ah_kSt {a c k : Int} (g : kSt a c k) : kAh a c k := by
  unfold kSt at g
  rcases g with g | g
  · exact Or.inr (Or.inr (Or.inr (Or.inl ⟨g.1, by omega⟩)))
  · exact Or.inr (Or.inr (Or.inr (Or.inr (Or.inr ⟨g.1, g.2.1⟩))))
theorem nq_kGf {a c k : Int} (ha : 0 ≤ a ∧ a ≤ 3) (q : kGf a c k) : kNq c k := by
  unfold kGf at q
  rcases q with q | q
  · exact Or.inr (Or.inr (Or.inr (Or.inr (Or.inr (Or.inr (Or.inr (Or.inr (Or.inr (Or.inr (Or.inr (Or.inr (Or.inr (Or.inl (by omega))))))))))))))
  · exact Or.inr (Or.inr (Or.inr (Or.inr (Or.inr (Or.inr (Or.inr (Or.inr (Or.inr (Or.inr (Or.inr (Or.inr (Or.inr (Or.inr (Or.inr (Or.inr ((by omega)))))))))))))))))
end Kr
theorem no_cr_0 {k : Int} : ¬ kHv 0 k := by unfold kHv; omega
theorem no_cr_1 {k : Int} : ¬ kLg 0 k := by unfold kLg; omega
set_option maxHeartbeats 4000000 in
theorem c_261 {d : Nat} (hd : 25 ≤ d) {w : eW} (hT : e_Has kTy w) {a : Int} (ga : 0 ≤ a ∧ a ≤ 3) {OP OD CL : Int → Int → Int} {h t0 : Int} (q : kI w OP OD CL h t0) (hst : w (17 * a + 86) 11 = 1) (hth : ∀ i, 0 ≤ i → i < w (17 * a + 86) 8 → w (17 * a + i + 97) 7 = w (17 * a + i + 97) 9 ∧ w (17 * a + i + 97) 8 = 0) (he : w 74 1 < 2147483647) : e_Ok 20 elay kcode eI d 261 (0, [(0, (1, 0)), (1, (0, a))], [], w) (fun r w' => r = [] ∧ e_Has kTy w' ∧ (e_fr kNq w w' ∧ w' 74 0 = w 74 0) ∧ kI w' OP OD CL h t0 ∧ w' 74 1 = w 74 1 + 1 ∧ ∀ i, 0 ≤ i → i ≤ 5 → w' (17 * a + i + 97) 11 = w (17 * a + i + 97) 11) := by
  obtain ⟨d, rfl⟩ : ∃ e, d = e + 1 := ⟨d - 1, by omega⟩
  have h74 := e_Has.get hT (c := 74) (k := 1) (lo := 0) (hi := 2147483647) (kt_o rfl) (by decide)
  have hjn := kn_joints hT (a := a) (by omega)
  have htk := ((q.arm (a := a) (by omega) (by omega)).2.2.2.1 (by omega)).1
  unfold kn1 at htk
  refine e_Ok.ps1 (x := (1, 0)) (q := 1) 1 rfl ?_
  refine e_Ok.getr (z := 9) rfl (el_o rfl) rfl rfl (e_Has.eq hT (kt_o rfl)) ⟨by decide, by decide⟩ ?_
  refine e_Ok.ps1 (x := (0, a)) (q := 5) 1 rfl ?_
  refine e_Ok.aald (z := 17 * a + 86) rfl (el_o rfl) rfl (by omega) (Eq.trans (e_Has.eq hT (k9 (by omega))) (by omega)) (by omega) ?_
  refine e_Ok.run (t' := (8, [(2, (1, 17 * a + 86)), (0, (1, 0)), (1, (0, a))], [(1, 0)], w)) 2 rfl ?_
  refine e_Ok.getr (z := 74) rfl (el_o rfl) rfl rfl (e_Has.eq hT (kt_o rfl)) ⟨by decide, by decide⟩ ?_
  refine e_Ok.ps3 (x := (1, 17 * a + 86)) (y := (0, a)) (z := (0, 8)) (q := 15) 3 rfl ?_
  refine e_Ok.getf (z := w (17 * a + 86) 12) rfl (lA0 (a := a) rfl ga) rfl rfl rfl (by omega) ?_
  refine e_Ok.callV rfl (e_dq hd rfl) rfl rfl rfl rfl (c_27 hT (by omega) (by omega) (by omega) (by omega)) (fun r1 w2 h3 => ?_)
  obtain ⟨rfl, q4f, q4T, q4x⟩ := h3
  have Q6 := kI.lg q q4T (e_fr.mono q4f (fun c k g => lh_kLg g)) (q4x.2 q.lgk)
  refine e_Ok.nrm (q := 21) (st' := []) rfl rfl ?_
  have hT1 := (Q6.arm (a := a) (by omega) (by omega)).2.2.2.1 (by rw [q4f _ _ (by unfold kLg; omega)]; omega)
  refine e_Ok.jp rfl ⟨rfl, 17 * a + 86, rfl, q4T, a, ga, rfl, hT1.1, hT1.2⟩ (fun w7 hw7 => ?_)
  have Q2 := kI.hk Q6 hw7
  have f2 : e_fr kHv w2 w7 := by rw [← hw7]; exact e_hk_fr _
  have e2 : ∀ c k, ¬ kLg c k → ¬ kHv c k → w7 c k = w c k := fun c k g1 g2 => (f2 c k g2).trans (q4f c k g1)
  refine e_Ok.run (t' := (52, [(2, (1, 17 * a + 86)), (0, (1, 0)), (1, (0, a))], [(1, 0)], w7)) 1 rfl ?_
  refine e_Ok.getr (z := 262) rfl (el_o rfl) rfl rfl ((f2 0 7 no_cr_0).trans ((q4f 0 7 no_cr_1).trans (e_Has.eq hT (kt_o rfl)))) ⟨by decide, by decide⟩ ?_
  refine e_Ok.ps1 (x := (1, 17 * a + 86)) (q := 56) 1 rfl ?_
  have hA2 := Q2.arm (a := a) (by omega) (by omega)
  have hb : ∀ c k, (c = 17 * a + 86 ∨ (17 * a + 97 ≤ c ∧ c ≤ 17 * a + 102) ∨ (269 ≤ c ∧ c ≤ 271)) → w7 c k = w c k := fun c k g => e2 c k (by unfold kLg; omega) (by unfold kHv; omega)
  have e11 : w7 (17 * a + 86) 11 = 1 := by rw [hb _ _ (by omega)]; exact hst
  have e8 : w7 (17 * a + 86) 8 = w (17 * a + 86) 8 := hb _ _ (by omega)
  have hth2 : ∀ i, 0 ≤ i → i < w7 (17 * a + 86) 8 → w7 (17 * a + i + 97) 7 = w7 (17 * a + i + 97) 9 ∧ w7 (17 * a + i + 97) 8 = 0 := fun i g1 g2 => by rw [hb _ 7 (by omega), hb _ 9 (by omega), hb _ 8 (by omega)]; exact hth i g1 (by omega)
  refine e_Ok.callV rfl (e_dq hd rfl) rfl rfl rfl rfl (c_108 (e_dq hd rfl) (a := a) Q2.1 (by omega) rfl rfl hA2.2.2.2.2.2.1 (fun g => by have g2 := hA2.2.2.2.2.2.2.2 g; exact ⟨g2.2.1, g2.2.2.1, g2.2.2.2.eq (fun _ _ _ _ => rfl) (fun _ _ _ => ⟨rfl, rfl⟩) (fun j g3 g4 => (hth2 j g3 g4).1)⟩) (fun j g1 g2 => by have g3 := hA2.2.2.1 j g1 g2; have g4 := g3.1.1; have g5 := g3.2.1; omega)) (fun r9 w10 h11 => ?_)
  obtain ⟨z12, rfl, q13f, q13T, q13x⟩ := h11
  have f14 : e_fr kNq w w10 := e_fr.trans (show e_fr kNq w w7 from e_fr.trans (show e_fr kNq w w2 from e_fr.trans (e_fr.refl w) (e_fr.mono q4f (fun c k q => by exact nq_kLg q))) (e_fr.mono f2 (fun c k q => by exact nq_kHv q))) (e_fr.mono q13f (fun c k q => by exact nq_kGf (by omega) q))
  have hz : z12 = 0 ∨ z12 = 1 := by rcases q13x with g | g; exact Or.inl g.1; exact Or.inr g.1
  refine e_Ok.nrm (q := 59) (st' := [(0, z12)]) rfl rfl ?_
  refine e_Ok.if1 rfl (fun h15 => ?_) (fun h15 => ?_)
  · replace h15 : (z12 : Int) ≠ 0 := h15
    refine e_Ok.rets rfl rfl ?_
    obtain ⟨-, k1, k2, k3, k4, k5, k6⟩ : z12 = 1 ∧ _ := by rcases q13x with g | g; exact absurd g.1 (by omega); exact g
    have hA3 := hA2.further (w' := w10) (by omega) (kn_joints Q2.1 (by omega)).2 (fun c k g1 g2 => q13f c k g2) (fun i g1 g2 => (hth2 i g1 g2).2) k1.1 k1.2 k2 k3 k5 k6
    have Q4 := kI.ar Q2 q13T (by omega) (q13f.mono (fun c k g => ah_kGf g)) (Q2.lgk.fr q13f (by unfold kGf; omega) (fun k => by unfold kGf; omega)) hA3 (fun g g9 => by have := Q2.pw g a (by omega) (by omega) g9; omega)
    exact ⟨rfl, q13T, ⟨f14, by rw [q13f _ _ (by unfold kGf; omega), f2 _ _ (by unfold kHv; omega)]; exact q4f _ _ (by unfold kLg; omega)⟩, Q4, by rw [q13f _ _ (by unfold kGf; omega), f2 _ _ (by unfold kHv; omega)]; exact q4x.1, fun i g1 g2 => by rw [q13f _ _ (by unfold kGf; omega), f2 _ _ (by unfold kHv; omega)]; exact q4f _ _ (by unfold kLg; omega)⟩
  · replace h15 : (z12 : Int) = 0 := Classical.not_not.mp (show ¬ ((z12 : Int) ≠ 0) from h15)
    have hw3 : w10 = w7 := by rcases q13x with g | g; exact g.2.1; exact absurd g.1 (by omega)
    have Q3 : kI w10 OP OD CL h t0 := by rw [hw3]; exact Q2
    refine e_Ok.ps1 (x := (1, 17 * a + 86)) (q := 63) 1 rfl ?_
    refine e_Ok.callV rfl (e_dq hd rfl) rfl (lA0 (a := a) rfl ga) rfl rfl (c_17_b (a := a) q13T (by omega)) (fun r16 w17 h18 => ?_)
    obtain ⟨rfl, q19f, q19T, q19x⟩ := h18
    refine e_Ok.nrm (q := 66) (st' := []) rfl rfl ?_
    refine e_Ok.rets rfl rfl ?_
    have hA4 := (Q3.arm (a := a) (by omega) (by omega)).stand (w' := w17) (by omega) (kn_joints Q3.1 (by omega)).2 (fun c k g1 g2 g3 => q19f c k (by unfold dA at g1; unfold kSt; omega)) q19x.1 q19x.2.2 q19x.2.1
    have Q4 := kI.ar Q3 q19T (by omega) (q19f.mono (fun c k g => ah_kSt g)) (Q3.lgk.fr q19f (by unfold kSt; omega) (fun k => by unfold kSt; omega)) hA4 (fun _ _ => q19x.1)
    exact ⟨rfl, q19T, ⟨(show e_fr kNq w w17 from e_fr.trans f14 (e_fr.mono q19f (fun c k q => by exact nq_kSt (by omega) q))), by rw [q19f _ _ (by unfold kSt; omega), hw3, f2 _ _ (by unfold kHv; omega)]; exact q4f _ _ (by unfold kLg; omega)⟩, Q4, by rw [q19f _ _ (by unfold kSt; omega), hw3, f2 _ _ (by unfold kHv; omega)]; exact q4x.1, fun i g1 g2 => by rw [q19f _ _ (by unfold kSt; omega), hw3, f2 _ _ (by unfold kHv; omega)]; exact q4f _ _ (by unfold kLg; omega)⟩
end
end
-- part cs
section
noncomputable section
/-! the class: an arm goes on in its cell -/
theorem hm_kSp {a c k : Int} (ha : 0 ≤ a ∧ a ≤ 3) (g : kSp a c k) : kHm c k := by
  unfold kSp at g
  unfold kHm
  have h1 : 97 ≤ c ∧ c ≤ 153 := by omega
  have h2 : 11 ≤ (c - 86) % 17 := by omega
  simp only [h1.1, h1.2, h2, g.2.2, true_and, and_true, true_or, or_true]
section Ks
variable {w w' : eW} {OP OD CL : Int → Int → Int} {h t0 : Int}
theorem ah_kGo {a c k : Int} (g : kGo a c k) : kAh a c k := by
  unfold kGo at g
  rcases g with g | g | g
  · exact Or.inr (Or.inr (Or.inr (Or.inl ⟨g.1, by omega⟩)))
  · exact Or.inr (Or.inr (Or.inr (Or.inr (Or.inr ⟨g.1, g.2.1⟩))))
  · exact Or.inr (Or.inr (Or.inr (Or.inr (Or.inl (by omega)))))
/-- one tick further, no joint moved -/
theorem kI.goA {a : Int} (q : kI w OP OD CL h t0) (ha : 0 ≤ a ∧ a ≤ 3) (hT : e_Has kTy w') (f : e_fr (kGo a) w w') (hs : w (17 * a + 86) 11 ≠ 0) (hM : aMs w' a (w (17 * a + 86) 8) (w (17 * a + 86) 11)) (hK : aK w' a) (hk : kn1 (w' (17 * a + 86) 12)) (hv : ∀ i, 0 ≤ i → i < w (17 * a + 86) 8 → w' (17 * a + i + 97) 7 = w (17 * a + i + 97) 7) : kI w' OP OD CL h t0 :=
  kI.ar q hT ha (f.mono (fun c k g => ah_kGo g)) (q.lgk.fr f (by unfold kGo; omega) (fun k => by unfold kGo; omega)) ((q.2.1 a ha.1 ha.2).go ha (kn_joints q.1 ha).2 (fun c k _ g2 _ => f c k g2) hK hM hk hs (Or.inr ⟨f _ _ (by unfold kGo; omega), hv⟩)) (fun g g9 => by rw [f _ _ (by unfold kGo; omega)]; exact q.pw g a ha.1 ha.2 g9)
/-- one tick further, and ways are stale -/
theorem kI.goB {w2 w3 : eW} {a : Int} (q : kI w OP OD CL h t0) (ha : 0 ≤ a ∧ a ≤ 3) (hT2 : e_Has kTy w2) (f : e_fr (kGo a) w w2) (hs : w (17 * a + 86) 11 ≠ 0) (hM : aMs w2 a (w (17 * a + 86) 8) (w (17 * a + 86) 11)) (hK : aK w2 a) (hk : kn1 (w2 (17 * a + 86) 12)) (hT3 : e_Has kTy w3) (f3 : e_fr kMv w2 w3) (hm : ∀ i, 0 ≤ i → i ≤ 3 → w3 (17 * i + 86) 19 ≠ 0) : kI w3 OP OD CL h t0 := by
  have e : ∀ c k, ¬ (c = 17 * a + 86 ∧ k = 19) → e_up w2 (17 * a + 86) 19 1 c k = w2 c k := fun c k g => e_up_ne _ _ (by omega)
  have hTu : e_Has kTy (e_up w2 (17 * a + 86) 19 1) := e_Has.upr hT2 rfl (kA_19 (a := a) rfl ha) (by decide)
  have hn := (kn_joints q.1 ha).2
  have hA : aR (e_up w2 (17 * a + 86) 19 1) a := by
    refine (q.2.1 a ha.1 ha.2).go ha hn (fun c k g1 g2 g3 => by rw [e _ _ g3]; exact f c k g2) (hK.up rfl (by omega) (by omega) (by omega)) ?_ (by rw [e _ _ (by omega)]; exact hk) hs (Or.inl (by rw [e_up_eq]; decide))
    exact hM.eq hn (fun c k g1 g2 g3 g4 => e _ _ (by omega))
  have Q1 : kI (e_up w2 (17 * a + 86) 19 1) OP OD CL h t0 := by
    refine kI.ar q hTu ha (fun c k g => ?_) ?_ hA (fun g g9 => by rw [e _ _ (by omega), f _ _ (by unfold kGo; omega)]; exact q.pw g a ha.1 ha.2 g9)
    · by_cases g4 : c = 17 * a + 86 ∧ k = 19
      · exact absurd (Or.inr (Or.inr (Or.inr (Or.inl ⟨g4.1, by omega⟩)))) g
      · rw [e _ _ g4]; exact f c k (fun g5 => g (ah_kGo g5))
    · refine q.lgk.fr (S := fun c k => (c = 17 * a + 86 ∧ k = 19) ∨ kGo a c k) (fun c k g => ?_) (by unfold kGo; omega) (fun k => by unfold kGo; omega)
      rw [e _ _ (fun g2 => g (Or.inl g2))]; exact f c k (fun g2 => g (Or.inr g2))
  have hcdn : 17 * a + 86 = 86 ∨ 17 * a + 86 = 103 ∨ 17 * a + 86 = 120 ∨ 17 * a + 86 = 137 := by omega
  refine kI.stale Q1 hT3 (fun c k g => ?_) hm
  rw [f3 c k g, e _ _ (fun g2 => g (Or.inl ⟨by omega, g2.2⟩))]
end Ks
theorem no_cs_0 {a : Int} : ¬ kSp a 0 5 := by unfold kSp; omega
theorem no_cs_1 {a : Int} : ¬ kSp a 74 3 := by unfold kSp; omega
theorem no_cs_2 {a : Int} (ha : 0 ≤ a ∧ a ≤ 3) : ¬ kSp a (17 * a + 86) 11 := by unfold kSp; omega
theorem no_cs_3 {a : Int} (ha : 0 ≤ a ∧ a ≤ 3) : ¬ kGo a (17 * a + 86) 11 := by unfold kGo; omega
theorem no_cs_4 {a : Int} (ha : 0 ≤ a ∧ a ≤ 3) : ¬ kGo a 0 1 := by unfold kGo; omega
theorem no_cs_5 {a : Int} : ¬ kSp a 0 1 := by unfold kSp; omega
theorem no_cs_6 {a : Int} (ha : 0 ≤ a ∧ a ≤ 3) : ¬ kMv (17 * a + 86) 11 := by unfold kMv; omega
set_option maxHeartbeats 4000000 in
theorem c_260 {d : Nat} (hd : 26 ≤ d) {w : eW} (hT : e_Has kTy w) {a : Int} (ga : 0 ≤ a ∧ a ≤ 3) {OP OD CL : Int → Int → Int} {h t0 : Int} (q : kI w OP OD CL h t0) (he : w 74 1 < 2147483646) : e_Ok 20 elay kcode eI d 260 (0, [(0, (1, 0)), (1, (0, a))], [], w) (fun r w' => r = [] ∧ e_Has kTy w' ∧ (e_fr kNw w w' ∧ w' 74 0 = w 74 0) ∧ kI w' OP OD CL h t0 ∧ w 74 1 ≤ w' 74 1 ∧ w' 74 1 ≤ w 74 1 + 1 ∧ aQ w w') := by
  obtain ⟨d, rfl⟩ : ∃ e, d = e + 1 := ⟨d - 1, by omega⟩
  have h74 := e_Has.get hT (c := 74) (k := 1) (lo := 0) (hi := 2147483647) (kt_o rfl) (by decide)
  have hjn := kn_joints hT (a := a) (by omega)
  refine e_Ok.ps1 (x := (1, 0)) (q := 1) 1 rfl ?_
  refine e_Ok.getr (z := 9) rfl (el_o rfl) rfl rfl (e_Has.eq hT (kt_o rfl)) ⟨by decide, by decide⟩ ?_
  refine e_Ok.ps1 (x := (0, a)) (q := 5) 1 rfl ?_
  refine e_Ok.aald (z := 17 * a + 86) rfl (el_o rfl) rfl (by omega) (Eq.trans (e_Has.eq hT (k9 (by omega))) (by omega)) (by omega) ?_
  refine e_Ok.run (t' := (8, [(2, (1, 17 * a + 86)), (0, (1, 0)), (1, (0, a))], [(1, 17 * a + 86)], w)) 2 rfl ?_
  refine e_Ok.callV rfl (e_dq hd rfl) rfl (lA0 (a := a) rfl ga) rfl rfl (c_12 (a := a) hT (by omega)) (fun r1 w2 h3 => ?_)
  obtain ⟨rfl, q4f, q4T, q4x⟩ := h3
  have f5 : e_fr kNw w w2 := e_fr.trans (e_fr.refl w) (e_fr.mono q4f (fun c k q => by exact nw_kSp (by omega) q))
  have A6 : aQ w w2 := aQ.trans (aQ.refl w) (aQ.q (e_fr.mono q4f (fun c k q => nq_kSp (by omega) q)) hT q4T)
  have Q1 := kI.hm q q4T (q4f.mono (fun c k g => hm_kSp ga g))
  have b1 : (∀ i, 0 ≤ i → i < w (17 * a + 86) 8 → kn1 (w2 (17 * a + i + 97) 11)) := q4x
  have j1 : w2 (17 * a + 86) 8 = w (17 * a + 86) 8 := q4f _ _ (by unfold kSp; omega)
  have s1 : w2 (17 * a + 86) 11 = w (17 * a + 86) 11 := q4f _ _ (by unfold kSp; omega)
  have v1e : w2 74 1 = w 74 1 := q4f _ _ (by unfold kSp; omega)
  have t1e : w2 74 0 = w 74 0 := q4f _ _ (by unfold kSp; omega)
  refine e_Ok.nrm (q := 11) (st' := []) rfl rfl ?_
  refine e_Ok.ps1 (x := (1, 0)) (q := 12) 1 rfl ?_
  refine e_Ok.getr (z := 74) rfl (el_o rfl) rfl rfl ((q4f 0 5 (by first | exact no_cs_0 | (unfold kSp; omega))).trans (e_Has.eq hT (kt_o rfl))) ⟨by decide, by decide⟩ ?_
  have h7 := (e_Has.get hT (c := 74) (k := 3) (lo := 0) (hi := 1) (kt_o rfl) (by decide))
  refine e_Ok.getf (z := w 74 3) rfl (el_o rfl) rfl rfl ((q4f 74 3 (by first | exact no_cs_1 | (unfold kSp; omega))).trans rfl) (e_bq h7 (by decide) (by decide)) ?_
  refine e_Ok.if1 rfl (fun h8 => ?_) (fun h8 => ?_)
  · replace h8 : (w 74 3 : Int) = 0 := h8
    refine e_Ok.jp rfl ⟨rfl, 17 * a + 86, rfl, q4T, a, ga, rfl, fun j g1 g2 => b1 j g1 (by omega)⟩ (fun w9 hw9 => ?_)
    have fHv : e_fr kHv w2 w9 := by rw [← hw9]; exact e_hk_fr _
    have Q9 := kI.hk Q1 hw9
    have A11 : aQ w w9 := aQ.trans A6 (aQ.q (e_fr.mono fHv (fun c k q => nq_kHv q)) q4T Q9.1)
    refine e_Ok.rets rfl rfl ?_
    exact ⟨rfl, Q9.1, ⟨(show e_fr kNw w w9 from e_fr.trans f5 (e_fr.mono fHv (fun c k q => by exact nw_kHv q))), Eq.trans (fHv _ _ (by unfold kHv; omega)) t1e⟩, Q9, by rw [fHv _ _ (by unfold kHv; omega)]; omega, by rw [fHv _ _ (by unfold kHv; omega)]; omega, A11⟩
  · replace h8 : (w 74 3 : Int) ≠ 0 := (show ¬ ((w 74 3 : Int) = 0) from h8)
    refine e_Ok.ps1 (x := (1, 17 * a + 86)) (q := 22) 1 rfl ?_
    have h12 := (e_Has.get hT (c := 17 * a + 86) (k := 11) (lo := 0) (hi := 2) (kA_11 (a := a) rfl ga) (by decide))
    refine e_Ok.getf (z := w (17 * a + 86) 11) rfl (lA0 (a := a) rfl ga) rfl rfl ((q4f (17 * a + 86) 11 (by first | exact no_cs_2 (by omega) | (unfold kSp; omega))).trans rfl) (e_bq h12 (by decide) (by decide)) ?_
    refine e_Ok.if1 rfl (fun h13 => ?_) (fun h13 => ?_)
    · replace h13 : (w (17 * a + 86) 11 : Int) = 0 := h13
      refine e_Ok.jp rfl ⟨rfl, 17 * a + 86, rfl, q4T, a, ga, rfl, fun j g1 g2 => b1 j g1 (by omega)⟩ (fun w14 hw14 => ?_)
      have fHv : e_fr kHv w2 w14 := by rw [← hw14]; exact e_hk_fr _
      have Q9 := kI.hk Q1 hw14
      have A16 : aQ w w14 := aQ.trans A6 (aQ.q (e_fr.mono fHv (fun c k q => nq_kHv q)) q4T Q9.1)
      refine e_Ok.rets rfl rfl ?_
      exact ⟨rfl, Q9.1, ⟨(show e_fr kNw w w14 from e_fr.trans f5 (e_fr.mono fHv (fun c k q => by exact nw_kHv q))), Eq.trans (fHv _ _ (by unfold kHv; omega)) t1e⟩, Q9, by rw [fHv _ _ (by unfold kHv; omega)]; omega, by rw [fHv _ _ (by unfold kHv; omega)]; omega, A16⟩
    · replace h13 : (w (17 * a + 86) 11 : Int) ≠ 0 := (show ¬ ((w (17 * a + 86) 11 : Int) = 0) from h13)
      refine e_Ok.ps1 (x := (1, 17 * a + 86)) (q := 29) 1 rfl ?_
      refine e_Ok.callV rfl (e_dq hd rfl) rfl (lA0 (a := a) rfl ga) rfl rfl (c_14_b (e_dq hd rfl) (a := a) q4T (by omega) (Q1.arm (a := a) (by omega) (by omega)).1 ((Q1.arm (a := a) (by omega) (by omega)).2.2.2.1 (by omega)).1 (by omega) (Q1.arm (a := a) (by omega) (by omega)).2.2.1) (fun r17 w18 h19 => ?_)
      obtain ⟨z20, rfl, q21f, q21T, q21r, q21x⟩ := h19
      have f22 : e_fr kNw w w18 := e_fr.trans f5 (e_fr.mono q21f (fun c k q => by exact nw_kGo (by omega) q))
      have A23 : aQ w w18 := aQ.trans A6 (aQ.go ga q21f q4T q21T q21x.2.2.2.2)
      refine e_Ok.nrm (q := 32) (st' := [(0, z20)]) rfl rfl ?_
      refine e_Ok.if1 rfl (fun h24 => ?_) (fun h24 => ?_)
      · replace h24 : (z20 : Int) = 0 := h24
        have Q3 := kI.goA Q1 ga q21T q21f (by omega) q21x.1 q21x.2.1 q21x.2.2.2.1 (q21x.2.2.1 (by omega))
        have b3 : (∀ i, 0 ≤ i → i < w (17 * a + 86) 8 → kn1 (w18 (17 * a + i + 97) 11)) := fun i g1 g2 => by rw [q21f _ _ (by unfold kGo; omega)]; exact b1 i g1 g2
        have j3 : w18 (17 * a + 86) 8 = w (17 * a + 86) 8 := Eq.trans (q21f _ _ (by unfold kGo; omega)) j1
        have v3e : w18 74 1 = w 74 1 := Eq.trans (q21f _ _ (by unfold kGo; omega)) v1e
        have t3e : w18 74 0 = w 74 0 := Eq.trans (q21f _ _ (by unfold kGo; omega)) t1e
        have s3 : w18 (17 * a + 86) 11 = w2 (17 * a + 86) 11 := q21f _ _ (by unfold kGo; omega)
        refine e_Ok.ps1 (x := (1, 17 * a + 86)) (q := 44) 1 rfl ?_
        refine e_Ok.getf (z := w (17 * a + 86) 11) rfl (lA0 (a := a) rfl ga) rfl rfl ((q21f (17 * a + 86) 11 (by first | exact no_cs_3 (by omega) | (unfold kGo; omega))).trans ((q4f (17 * a + 86) 11 (by first | exact no_cs_2 (by omega) | (unfold kSp; omega))).trans rfl)) (by omega) ?_
        refine e_Ok.ps1 (x := (0, 2)) (q := 48) 1 rfl ?_
        refine e_Ok.if2 rfl (fun h25 => ?_) (fun h25 => ?_)
        · replace h25 : (w (17 * a + 86) 11 : Int) ≠ 2 := h25
          refine e_Ok.ps1 (x := (1, 17 * a + 86)) (q := 66) 1 rfl ?_
          refine e_Ok.getf (z := w (17 * a + 86) 11) rfl (lA0 (a := a) rfl ga) rfl rfl ((q21f (17 * a + 86) 11 (by first | exact no_cs_3 (by omega) | (unfold kGo; omega))).trans ((q4f (17 * a + 86) 11 (by first | exact no_cs_2 (by omega) | (unfold kSp; omega))).trans rfl)) (by omega) ?_
          refine e_Ok.ps1 (x := (0, 1)) (q := 70) 1 rfl ?_
          refine e_Ok.if2 rfl (fun h26 => ?_) (fun h26 => ?_)
          · replace h26 : (w (17 * a + 86) 11 : Int) ≠ 1 := h26
            exfalso; omega
          · replace h26 : (w (17 * a + 86) 11 : Int) = 1 := Classical.not_not.mp (show ¬ ((w (17 * a + 86) 11 : Int) ≠ 1) from h26)
            refine e_Ok.ps1 (x := (1, 17 * a + 86)) (q := 74) 1 rfl ?_
            refine e_Ok.callV rfl (e_dq hd rfl) rfl (lA0 (a := a) rfl ga) rfl rfl (c_16 (e_dq hd rfl) (a := a) q21T (by omega)) (fun r27 w28 h29 => ?_)
            obtain ⟨z30, rfl, rfl, q31r, q31x⟩ := h29
            refine e_Ok.nrm (q := 77) (st' := [(0, z30)]) rfl rfl ?_
            refine e_Ok.if1 rfl (fun h32 => ?_) (fun h32 => ?_)
            · replace h32 : (z30 : Int) = 0 := h32
              refine e_Ok.jp rfl ⟨rfl, 17 * a + 86, rfl, q21T, a, ga, rfl, fun j g1 g2 => b3 j g1 (by omega)⟩ (fun w33 hw33 => ?_)
              have fHv : e_fr kHv w18 w33 := by rw [← hw33]; exact e_hk_fr _
              have Q9 := kI.hk Q3 hw33
              have A35 : aQ w w33 := aQ.trans A23 (aQ.q (e_fr.mono fHv (fun c k q => nq_kHv q)) q21T Q9.1)
              refine e_Ok.rets rfl rfl ?_
              exact ⟨rfl, Q9.1, ⟨(show e_fr kNw w w33 from e_fr.trans f22 (e_fr.mono fHv (fun c k q => by exact nw_kHv q))), Eq.trans (fHv _ _ (by unfold kHv; omega)) t3e⟩, Q9, by rw [fHv _ _ (by unfold kHv; omega)]; omega, by rw [fHv _ _ (by unfold kHv; omega)]; omega, A35⟩
            · replace h32 : (z30 : Int) ≠ 0 := (show ¬ ((z30 : Int) = 0) from h32)
              refine e_Ok.ps2 (x := (0, a)) (y := (1, 0)) (q := 82) 2 rfl ?_
              refine e_Ok.callV rfl (e_dq hd rfl) rfl rfl rfl rfl (c_261 (e_dq hd rfl) (a := a) q21T ga Q3 (by omega) (q31x (by omega)) (by omega)) (fun r36 w37 h38 => ?_)
              obtain ⟨rfl, q40T, q40f, q40Q, q40e, q40b⟩ := h38
              have A42 : aQ w w37 := aQ.trans A23 (aQ.q q40f.1 q21T q40T)
              have b5 : (∀ i, 0 ≤ i → i < w (17 * a + 86) 8 → kn1 (w37 (17 * a + i + 97) 11)) := fun i g1 g2 => by rw [q40b i g1 (by omega)]; exact b3 i g1 g2
              have j5 : w37 (17 * a + 86) 8 = w (17 * a + 86) 8 := Eq.trans (q40f.1 _ _ (by unfold kNq; omega)) j3
              have v5e : w37 74 1 = w 74 1 + 1 := by rw [q40e, v3e]
              have t5e : w37 74 0 = w 74 0 := Eq.trans q40f.2 t3e
              refine e_Ok.nrm (q := 85) (st' := []) rfl rfl ?_
              refine e_Ok.jp rfl ⟨rfl, 17 * a + 86, rfl, q40T, a, ga, rfl, fun j g1 g2 => b5 j g1 (by omega)⟩ (fun w43 hw43 => ?_)
              have fHv : e_fr kHv w37 w43 := by rw [← hw43]; exact e_hk_fr _
              have Q9 := kI.hk q40Q hw43
              have A45 : aQ w w43 := aQ.trans A42 (aQ.q (e_fr.mono fHv (fun c k q => nq_kHv q)) q40T Q9.1)
              refine e_Ok.rets rfl rfl ?_
              exact ⟨rfl, Q9.1, ⟨(show e_fr kNw w w43 from e_fr.trans (show e_fr kNw w w37 from e_fr.trans f22 (e_fr.mono q40f.1 (fun c k q => by exact nq_nw q))) (e_fr.mono fHv (fun c k q => by exact nw_kHv q))), Eq.trans (fHv _ _ (by unfold kHv; omega)) t5e⟩, Q9, by rw [fHv _ _ (by unfold kHv; omega)]; omega, by rw [fHv _ _ (by unfold kHv; omega)]; omega, A45⟩
        · replace h25 : (w (17 * a + 86) 11 : Int) = 2 := Classical.not_not.mp (show ¬ ((w (17 * a + 86) 11 : Int) ≠ 2) from h25)
          refine e_Ok.ps1 (x := (1, 17 * a + 86)) (q := 52) 1 rfl ?_
          refine e_Ok.callV rfl (e_dq hd rfl) rfl (lA0 (a := a) rfl ga) rfl rfl (c_15 (a := a) q21T (by omega)) (fun r46 w47 h48 => ?_)
          obtain ⟨z50, rfl, rfl, q49r, q49x⟩ := h48
          refine e_Ok.nrm (q := 55) (st' := [(0, z50)]) rfl rfl ?_
          refine e_Ok.if1 rfl (fun h51 => ?_) (fun h51 => ?_)
          · replace h51 : (z50 : Int) = 0 := h51
            refine e_Ok.ps1 (x := (1, 17 * a + 86)) (q := 66) 1 rfl ?_
            refine e_Ok.getf (z := w (17 * a + 86) 11) rfl (lA0 (a := a) rfl ga) rfl rfl ((q21f (17 * a + 86) 11 (by first | exact no_cs_3 (by omega) | (unfold kGo; omega))).trans ((q4f (17 * a + 86) 11 (by first | exact no_cs_2 (by omega) | (unfold kSp; omega))).trans rfl)) (by omega) ?_
            refine e_Ok.ps1 (x := (0, 1)) (q := 70) 1 rfl ?_
            refine e_Ok.if2 rfl (fun h52 => ?_) (fun h52 => ?_)
            · replace h52 : (w (17 * a + 86) 11 : Int) ≠ 1 := h52
              refine e_Ok.jp rfl ⟨rfl, 17 * a + 86, rfl, q21T, a, ga, rfl, fun j g1 g2 => b3 j g1 (by omega)⟩ (fun w53 hw53 => ?_)
              have fHv : e_fr kHv w18 w53 := by rw [← hw53]; exact e_hk_fr _
              have Q9 := kI.hk Q3 hw53
              have A55 : aQ w w53 := aQ.trans A23 (aQ.q (e_fr.mono fHv (fun c k q => nq_kHv q)) q21T Q9.1)
              refine e_Ok.rets rfl rfl ?_
              exact ⟨rfl, Q9.1, ⟨(show e_fr kNw w w53 from e_fr.trans f22 (e_fr.mono fHv (fun c k q => by exact nw_kHv q))), Eq.trans (fHv _ _ (by unfold kHv; omega)) t3e⟩, Q9, by rw [fHv _ _ (by unfold kHv; omega)]; omega, by rw [fHv _ _ (by unfold kHv; omega)]; omega, A55⟩
            · replace h52 : (w (17 * a + 86) 11 : Int) = 1 := Classical.not_not.mp (show ¬ ((w (17 * a + 86) 11 : Int) ≠ 1) from h52)
              exfalso; omega
          · replace h51 : (z50 : Int) ≠ 0 := (show ¬ ((z50 : Int) = 0) from h51)
            refine e_Ok.ps1 (x := (1, 17 * a + 86)) (q := 59) 1 rfl ?_
            refine e_Ok.callV rfl (e_dq hd rfl) rfl (lA0 (a := a) rfl ga) rfl rfl (c_17_b (a := a) q21T (by omega)) (fun r56 w57 h58 => ?_)
            obtain ⟨rfl, q59f, q59T, q59x⟩ := h58
            have A61 : aQ w w57 := aQ.trans A23 (aQ.q (e_fr.mono q59f (fun c k q => nq_kSt (by omega) q)) q21T q59T)
            have hA4 := (Q3.arm (a := a) (by omega) (by omega)).stand (w' := w57) (by omega) (kn_joints Q3.1 (by omega)).2 (fun c k g1 g2 g3 => q59f c k (by unfold dA at g1; unfold kSt; omega)) q59x.1 q59x.2.2 q59x.2.1
            have Q4 := kI.ar Q3 q59T (by omega) (q59f.mono (fun c k g => ah_kSt g)) (Q3.lgk.fr q59f (by unfold kSt; omega) (fun k => by unfold kSt; omega)) hA4 (fun _ _ => q59x.1)
            have b4 : (∀ i, 0 ≤ i → i < w (17 * a + 86) 8 → kn1 (w57 (17 * a + i + 97) 11)) := fun i g1 g2 => by rw [q59f _ _ (by unfold kSt; omega)]; exact b3 i g1 g2
            have j4 : w57 (17 * a + 86) 8 = w (17 * a + 86) 8 := Eq.trans (q59f _ _ (by unfold kSt; omega)) j3
            have v4e : w57 74 1 = w 74 1 := Eq.trans (q59f _ _ (by unfold kSt; omega)) v3e
            have t4e : w57 74 0 = w 74 0 := Eq.trans (q59f _ _ (by unfold kSt; omega)) t3e
            refine e_Ok.nrm (q := 62) (st' := []) rfl rfl ?_
            refine e_Ok.ps0 (q := 85) 1 rfl ?_
            refine e_Ok.jp rfl ⟨rfl, 17 * a + 86, rfl, q59T, a, ga, rfl, fun j g1 g2 => b4 j g1 (by omega)⟩ (fun w62 hw62 => ?_)
            have fHv : e_fr kHv w57 w62 := by rw [← hw62]; exact e_hk_fr _
            have Q9 := kI.hk Q4 hw62
            have A64 : aQ w w62 := aQ.trans A61 (aQ.q (e_fr.mono fHv (fun c k q => nq_kHv q)) q59T Q9.1)
            refine e_Ok.rets rfl rfl ?_
            exact ⟨rfl, Q9.1, ⟨(show e_fr kNw w w62 from e_fr.trans (show e_fr kNw w w57 from e_fr.trans f22 (e_fr.mono q59f (fun c k q => by exact nw_kSt (by omega) q))) (e_fr.mono fHv (fun c k q => by exact nw_kHv q))), Eq.trans (fHv _ _ (by unfold kHv; omega)) t4e⟩, Q9, by rw [fHv _ _ (by unfold kHv; omega)]; omega, by rw [fHv _ _ (by unfold kHv; omega)]; omega, A64⟩
      · replace h24 : (z20 : Int) ≠ 0 := (show ¬ ((z20 : Int) = 0) from h24)
        refine e_Ok.ps1 (x := (1, 0)) (q := 36) 1 rfl ?_
        refine e_Ok.getr (z := 8) rfl (el_o rfl) rfl rfl ((q21f 0 1 (by first | exact no_cs_4 (by omega) | (unfold kGo; omega))).trans ((q4f 0 1 (by first | exact no_cs_5 | (unfold kSp; omega))).trans (e_Has.eq hT (kt_o rfl)))) ⟨by decide, by decide⟩ ?_
        refine e_Ok.ps1 (x := (0, a)) (q := 40) 1 rfl ?_
        refine e_Ok.callV rfl (e_dq hd rfl) rfl rfl rfl rfl (c_39 q21T (by omega)) (fun r65 w66 h67 => ?_)
        obtain ⟨rfl, q68f, q68T, q68x⟩ := h67
        have f69 : e_fr kNw w w66 := e_fr.trans f22 (e_fr.mono q68f (fun c k q => by exact nw_kMv q))
        have A70 : aQ w w66 := aQ.trans A23 (aQ.q (e_fr.mono q68f (fun c k q => nq_kMv q)) q21T q68T)
        have b2 : (∀ i, 0 ≤ i → i < w (17 * a + 86) 8 → kn1 (w18 (17 * a + i + 97) 11)) := fun i g1 g2 => by rw [q21f _ _ (by unfold kGo; omega)]; exact b1 i g1 g2
        have j2 : w18 (17 * a + 86) 8 = w (17 * a + 86) 8 := Eq.trans (q21f _ _ (by unfold kGo; omega)) j1
        have v2e : w18 74 1 = w 74 1 := Eq.trans (q21f _ _ (by unfold kGo; omega)) v1e
        have t2e : w18 74 0 = w 74 0 := Eq.trans (q21f _ _ (by unfold kGo; omega)) t1e
        have Q3 := kI.goB Q1 ga q21T q21f (by omega) q21x.1 q21x.2.1 q21x.2.2.2.1 q68T q68f q68x
        have b3 : (∀ i, 0 ≤ i → i < w (17 * a + 86) 8 → kn1 (w66 (17 * a + i + 97) 11)) := fun i g1 g2 => by rw [q68f _ _ (by unfold kMv; omega)]; exact b2 i g1 g2
        have j3 : w66 (17 * a + 86) 8 = w (17 * a + 86) 8 := Eq.trans (q68f _ _ (by unfold kMv; omega)) j2
        have v3e : w66 74 1 = w 74 1 := Eq.trans (q68f _ _ (by unfold kMv; omega)) v2e
        have t3e : w66 74 0 = w 74 0 := Eq.trans (q68f _ _ (by unfold kMv; omega)) t2e
        have s3 : w66 (17 * a + 86) 11 = w2 (17 * a + 86) 11 := Eq.trans (q68f _ _ (by unfold kMv; omega)) (q21f _ _ (by unfold kGo; omega))
        refine e_Ok.nrm (q := 43) (st' := []) rfl rfl ?_
        refine e_Ok.ps1 (x := (1, 17 * a + 86)) (q := 44) 1 rfl ?_
        refine e_Ok.getf (z := w (17 * a + 86) 11) rfl (lA0 (a := a) rfl ga) rfl rfl ((q68f (17 * a + 86) 11 (by first | exact no_cs_6 (by omega) | (unfold kMv; omega))).trans ((q21f (17 * a + 86) 11 (by first | exact no_cs_3 (by omega) | (unfold kGo; omega))).trans ((q4f (17 * a + 86) 11 (by first | exact no_cs_2 (by omega) | (unfold kSp; omega))).trans rfl))) (by omega) ?_
        refine e_Ok.ps1 (x := (0, 2)) (q := 48) 1 rfl ?_
        refine e_Ok.if2 rfl (fun h71 => ?_) (fun h71 => ?_)
        · replace h71 : (w (17 * a + 86) 11 : Int) ≠ 2 := h71
          refine e_Ok.ps1 (x := (1, 17 * a + 86)) (q := 66) 1 rfl ?_
          refine e_Ok.getf (z := w (17 * a + 86) 11) rfl (lA0 (a := a) rfl ga) rfl rfl ((q68f (17 * a + 86) 11 (by first | exact no_cs_6 (by omega) | (unfold kMv; omega))).trans ((q21f (17 * a + 86) 11 (by first | exact no_cs_3 (by omega) | (unfold kGo; omega))).trans ((q4f (17 * a + 86) 11 (by first | exact no_cs_2 (by omega) | (unfold kSp; omega))).trans rfl))) (by omega) ?_
          refine e_Ok.ps1 (x := (0, 1)) (q := 70) 1 rfl ?_
          refine e_Ok.if2 rfl (fun h72 => ?_) (fun h72 => ?_)
          · replace h72 : (w (17 * a + 86) 11 : Int) ≠ 1 := h72
            exfalso; omega
          · replace h72 : (w (17 * a + 86) 11 : Int) = 1 := Classical.not_not.mp (show ¬ ((w (17 * a + 86) 11 : Int) ≠ 1) from h72)
            refine e_Ok.ps1 (x := (1, 17 * a + 86)) (q := 74) 1 rfl ?_
            refine e_Ok.callV rfl (e_dq hd rfl) rfl (lA0 (a := a) rfl ga) rfl rfl (c_16 (e_dq hd rfl) (a := a) q68T (by omega)) (fun r73 w74 h75 => ?_)
            obtain ⟨z76, rfl, rfl, q77r, q77x⟩ := h75
            refine e_Ok.nrm (q := 77) (st' := [(0, z76)]) rfl rfl ?_
            refine e_Ok.if1 rfl (fun h78 => ?_) (fun h78 => ?_)
            · replace h78 : (z76 : Int) = 0 := h78
              refine e_Ok.jp rfl ⟨rfl, 17 * a + 86, rfl, q68T, a, ga, rfl, fun j g1 g2 => b3 j g1 (by omega)⟩ (fun w79 hw79 => ?_)
              have fHv : e_fr kHv w66 w79 := by rw [← hw79]; exact e_hk_fr _
              have Q9 := kI.hk Q3 hw79
              have A81 : aQ w w79 := aQ.trans A70 (aQ.q (e_fr.mono fHv (fun c k q => nq_kHv q)) q68T Q9.1)
              refine e_Ok.rets rfl rfl ?_
              exact ⟨rfl, Q9.1, ⟨(show e_fr kNw w w79 from e_fr.trans f69 (e_fr.mono fHv (fun c k q => by exact nw_kHv q))), Eq.trans (fHv _ _ (by unfold kHv; omega)) t3e⟩, Q9, by rw [fHv _ _ (by unfold kHv; omega)]; omega, by rw [fHv _ _ (by unfold kHv; omega)]; omega, A81⟩
            · replace h78 : (z76 : Int) ≠ 0 := (show ¬ ((z76 : Int) = 0) from h78)
              refine e_Ok.ps2 (x := (0, a)) (y := (1, 0)) (q := 82) 2 rfl ?_
              refine e_Ok.callV rfl (e_dq hd rfl) rfl rfl rfl rfl (c_261 (e_dq hd rfl) (a := a) q68T ga Q3 (by omega) (q77x (by omega)) (by omega)) (fun r82 w83 h84 => ?_)
              obtain ⟨rfl, q85T, q85f, q85Q, q85e, q85b⟩ := h84
              have A87 : aQ w w83 := aQ.trans A70 (aQ.q q85f.1 q68T q85T)
              have b5 : (∀ i, 0 ≤ i → i < w (17 * a + 86) 8 → kn1 (w83 (17 * a + i + 97) 11)) := fun i g1 g2 => by rw [q85b i g1 (by omega)]; exact b3 i g1 g2
              have j5 : w83 (17 * a + 86) 8 = w (17 * a + 86) 8 := Eq.trans (q85f.1 _ _ (by unfold kNq; omega)) j3
              have v5e : w83 74 1 = w 74 1 + 1 := by rw [q85e, v3e]
              have t5e : w83 74 0 = w 74 0 := Eq.trans q85f.2 t3e
              refine e_Ok.nrm (q := 85) (st' := []) rfl rfl ?_
              refine e_Ok.jp rfl ⟨rfl, 17 * a + 86, rfl, q85T, a, ga, rfl, fun j g1 g2 => b5 j g1 (by omega)⟩ (fun w88 hw88 => ?_)
              have fHv : e_fr kHv w83 w88 := by rw [← hw88]; exact e_hk_fr _
              have Q9 := kI.hk q85Q hw88
              have A90 : aQ w w88 := aQ.trans A87 (aQ.q (e_fr.mono fHv (fun c k q => nq_kHv q)) q85T Q9.1)
              refine e_Ok.rets rfl rfl ?_
              exact ⟨rfl, Q9.1, ⟨(show e_fr kNw w w88 from e_fr.trans (show e_fr kNw w w83 from e_fr.trans f69 (e_fr.mono q85f.1 (fun c k q => by exact nq_nw q))) (e_fr.mono fHv (fun c k q => by exact nw_kHv q))), Eq.trans (fHv _ _ (by unfold kHv; omega)) t5e⟩, Q9, by rw [fHv _ _ (by unfold kHv; omega)]; omega, by rw [fHv _ _ (by unfold kHv; omega)]; omega, A90⟩
        · replace h71 : (w (17 * a + 86) 11 : Int) = 2 := Classical.not_not.mp (show ¬ ((w (17 * a + 86) 11 : Int) ≠ 2) from h71)
          refine e_Ok.ps1 (x := (1, 17 * a + 86)) (q := 52) 1 rfl ?_
          refine e_Ok.callV rfl (e_dq hd rfl) rfl (lA0 (a := a) rfl ga) rfl rfl (c_15 (a := a) q68T (by omega)) (fun r91 w92 h93 => ?_)
          obtain ⟨z95, rfl, rfl, q94r, q94x⟩ := h93
          refine e_Ok.nrm (q := 55) (st' := [(0, z95)]) rfl rfl ?_
          refine e_Ok.if1 rfl (fun h101 => ?_) (fun h101 => ?_)
          · replace h101 : (z95 : Int) = 0 := h101
            refine e_Ok.ps1 (x := (1, 17 * a + 86)) (q := 66) 1 rfl ?_
            refine e_Ok.getf (z := w (17 * a + 86) 11) rfl (lA0 (a := a) rfl ga) rfl rfl ((q68f (17 * a + 86) 11 (by first | exact no_cs_6 (by omega) | (unfold kMv; omega))).trans ((q21f (17 * a + 86) 11 (by first | exact no_cs_3 (by omega) | (unfold kGo; omega))).trans ((q4f (17 * a + 86) 11 (by first | exact no_cs_2 (by omega) | (unfold kSp; omega))).trans rfl))) (by omega) ?_
            refine e_Ok.ps1 (x := (0, 1)) (q := 70) 1 rfl ?_
            refine e_Ok.if2 rfl (fun h103 => ?_) (fun h103 => ?_)
            · replace h103 : (w (17 * a + 86) 11 : Int) ≠ 1 := h103
              refine e_Ok.jp rfl ⟨rfl, 17 * a + 86, rfl, q68T, a, ga, rfl, fun j g1 g2 => b3 j g1 (by omega)⟩ (fun w104 hw104 => ?_)
              have fHv : e_fr kHv w66 w104 := by rw [← hw104]; exact e_hk_fr _
              have Q9 := kI.hk Q3 hw104
              have A106 : aQ w w104 := aQ.trans A70 (aQ.q (e_fr.mono fHv (fun c k q => nq_kHv q)) q68T Q9.1)
              refine e_Ok.rets rfl rfl ?_
              exact ⟨rfl, Q9.1, ⟨(show e_fr kNw w w104 from e_fr.trans f69 (e_fr.mono fHv (fun c k q => by exact nw_kHv q))), Eq.trans (fHv _ _ (by unfold kHv; omega)) t3e⟩, Q9, by rw [fHv _ _ (by unfold kHv; omega)]; omega, by rw [fHv _ _ (by unfold kHv; omega)]; omega, A106⟩
            · replace h103 : (w (17 * a + 86) 11 : Int) = 1 := Classical.not_not.mp (show ¬ ((w (17 * a + 86) 11 : Int) ≠ 1) from h103)
              exfalso; omega
          · replace h101 : (z95 : Int) ≠ 0 := (show ¬ ((z95 : Int) = 0) from h101)
            refine e_Ok.ps1 (x := (1, 17 * a + 86)) (q := 59) 1 rfl ?_
            refine e_Ok.callV rfl (e_dq hd rfl) rfl (lA0 (a := a) rfl ga) rfl rfl (c_17_b (a := a) q68T (by omega)) (fun r107 w108 h109 => ?_)
            obtain ⟨rfl, q110f, q110T, q110x⟩ := h109
            have A112 : aQ w w108 := aQ.trans A70 (aQ.q (e_fr.mono q110f (fun c k q => nq_kSt (by omega) q)) q68T q110T)
            have hA4 := (Q3.arm (a := a) (by omega) (by omega)).stand (w' := w108) (by omega) (kn_joints Q3.1 (by omega)).2 (fun c k g1 g2 g3 => q110f c k (by unfold dA at g1; unfold kSt; omega)) q110x.1 q110x.2.2 q110x.2.1
            have Q4 := kI.ar Q3 q110T (by omega) (q110f.mono (fun c k g => ah_kSt g)) (Q3.lgk.fr q110f (by unfold kSt; omega) (fun k => by unfold kSt; omega)) hA4 (fun _ _ => q110x.1)
            have b4 : (∀ i, 0 ≤ i → i < w (17 * a + 86) 8 → kn1 (w108 (17 * a + i + 97) 11)) := fun i g1 g2 => by rw [q110f _ _ (by unfold kSt; omega)]; exact b3 i g1 g2
            have j4 : w108 (17 * a + 86) 8 = w (17 * a + 86) 8 := Eq.trans (q110f _ _ (by unfold kSt; omega)) j3
            have v4e : w108 74 1 = w 74 1 := Eq.trans (q110f _ _ (by unfold kSt; omega)) v3e
            have t4e : w108 74 0 = w 74 0 := Eq.trans (q110f _ _ (by unfold kSt; omega)) t3e
            refine e_Ok.nrm (q := 62) (st' := []) rfl rfl ?_
            refine e_Ok.ps0 (q := 85) 1 rfl ?_
            refine e_Ok.jp rfl ⟨rfl, 17 * a + 86, rfl, q110T, a, ga, rfl, fun j g1 g2 => b4 j g1 (by omega)⟩ (fun w113 hw113 => ?_)
            have fHv : e_fr kHv w108 w113 := by rw [← hw113]; exact e_hk_fr _
            have Q9 := kI.hk Q4 hw113
            have A115 : aQ w w113 := aQ.trans A112 (aQ.q (e_fr.mono fHv (fun c k q => nq_kHv q)) q110T Q9.1)
            refine e_Ok.rets rfl rfl ?_
            exact ⟨rfl, Q9.1, ⟨(show e_fr kNw w w113 from e_fr.trans (show e_fr kNw w w108 from e_fr.trans f69 (e_fr.mono q110f (fun c k q => by exact nw_kSt (by omega) q))) (e_fr.mono fHv (fun c k q => by exact nw_kHv q))), Eq.trans (fHv _ _ (by unfold kHv; omega)) t4e⟩, Q9, by rw [fHv _ _ (by unfold kHv; omega)]; omega, by rw [fHv _ _ (by unfold kHv; omega)]; omega, A115⟩
end
end
-- part ct
section
noncomputable section
/-! the class: guard -/
theorem hm_kTc {c k : Int} (g : kTc c k) : kHm c k := by
  unfold kTc at g
  unfold kHm
  simp [g.1, g.2.1, g.2.2]
theorem hm_74 {k : Int} (hk : k = 0 ∨ 4 ≤ k) : kHm 74 k := by
  unfold kHm
  simp [hk]
theorem no_ct_0 {k : Int} : ¬ kTc 0 k := by unfold kTc; omega
theorem no_ct_1 {k : Int} : ¬ kTc 74 k := by unfold kTc; omega
theorem no_ct_2 {k : Int} : ¬ kHv 74 k := by unfold kHv; omega
set_option maxHeartbeats 4000000 in
theorem c_262 {d : Nat} (hd : 26 ≤ d) {w : eW} (hT : e_Has kTy w) {OP OD CL : Int → Int → Int} {h t0 : Int} (q : kI w OP OD CL h t0) (he : w 74 1 ≤ 2147000000) : e_Ok 20 elay kcode eI d 262 (0, [(0, (1, 0))], [], w) (fun r w' => r = [] ∧ e_Has kTy w' ∧ (e_fr kNq w w' ∧ w' 74 0 = w 74 0) ∧ kI w' OP OD CL h t0 ∧ w 74 1 ≤ w' 74 1 ∧ w' 74 1 ≤ w 74 1 + 5) := by
  obtain ⟨d, rfl⟩ : ∃ e, d = e + 1 := ⟨d - 1, by omega⟩
  have h74 := e_Has.get hT (c := 74) (k := 1) (lo := 0) (hi := 2147483647) (kt_o rfl) (by decide)
  refine e_Ok.ps1 (x := (1, 0)) (q := 1) 1 rfl ?_
  refine e_Ok.getr (z := 74) rfl (el_o rfl) rfl rfl (e_Has.eq hT (kt_o rfl)) ⟨by decide, by decide⟩ ?_
  have h1 := (e_Has.get hT (c := 74) (k := 7) (lo := 0) (hi := 1) (kt_o rfl) (by decide))
  refine e_Ok.getf (z := w 74 7) rfl (el_o rfl) rfl rfl rfl (e_bq h1 (by decide) (by decide)) ?_
  refine e_Ok.if1 rfl (fun h2 => ?_) (fun h2 => ?_)
  · replace h2 : (w 74 7 : Int) = 0 := h2
    refine e_Ok.ps1 (x := (1, 0)) (q := 15) 1 rfl ?_
    refine e_Ok.callV rfl (e_dq hd rfl) rfl rfl rfl rfl (c_263 (e_dq hd rfl) hT (fun b g1 g2 => (q.arm g1 g2).1)) (fun r3 w4 h5 => ?_)
    obtain ⟨z6, rfl, q7f, q7T, q7r⟩ := h5
    have f8 : e_fr kNq w w4 := e_fr.trans (e_fr.refl w) (e_fr.mono q7f (fun c k q => by exact nq_kTc q))
    have Q9 := kI.hm q q7T (e_fr.mono q7f (fun c k g => hm_kTc g))
    refine e_Ok.nrm (q := 18) (st' := [(0, z6)]) rfl rfl ?_
    refine e_Ok.run (t' := (20, [(1, (0, z6)), (0, (1, 0))], [(0, z6)], w4)) 2 rfl ?_
    refine e_Ok.if1 rfl (fun h10 => ?_) (fun h10 => ?_)
    · replace h10 : (z6 : Int) < 0 := h10
      refine e_Ok.ps1 (x := (1, 0)) (q := 42) 1 rfl ?_
      refine e_Ok.getr (z := 74) rfl (el_o rfl) rfl rfl ((q7f 0 5 no_ct_0).trans (e_Has.eq hT (kt_o rfl))) ⟨by decide, by decide⟩ ?_
      refine e_Ok.ps1 (x := (0, 1)) (q := 46) 1 rfl ?_
      refine e_Ok.putb rfl (el_o rfl) rfl rfl (by omega) ?_
      generalize hw11 : e_up w4 74 7 1 = w11
      have f12 : e_fr kNq w w11 := e_fr.up f8 hw11 (by first | exact Or.inl ⟨rfl, (by decide)⟩ | (unfold kNq; omega))
      have hT13 : e_Has kTy w11 := e_Has.upr q7T hw11 (kt_o rfl) (by omega)
      have Q14 := kI.hu Q9 hT13 hw11 (hm_74 (by omega))
      refine e_Ok.ps1 (x := (1, 0)) (q := 50) 1 rfl ?_
      refine e_Ok.getr (z := 250) rfl (el_o rfl) rfl rfl (e_uq hw11 (Or.inl (by decide)) ((q7f 0 6 no_ct_0).trans (e_Has.eq hT (kt_o rfl)))) ⟨by decide, by decide⟩ ?_
      refine e_Ok.ps1 (x := (1, 0)) (q := 54) 1 rfl ?_
      refine e_Ok.getr (z := 9) rfl (el_o rfl) rfl rfl (e_uq hw11 (Or.inl (by decide)) ((q7f 0 2 no_ct_0).trans (e_Has.eq hT (kt_o rfl)))) ⟨by decide, by decide⟩ ?_
      refine e_Ok.callV rfl (e_dq hd rfl) rfl rfl rfl rfl (c_169 (e_dq hd rfl) hT13 (fun b g1 g2 => (Q14.arm g1 g2).1) (fun b g1 g2 => (Q14.arm g1 g2).2.1)) (fun r15 w16 h17 => ?_)
      obtain ⟨z19, rfl, rfl, q18r⟩ := h17
      refine e_Ok.nrm (q := 60) (st' := [(0, z19)]) rfl rfl ?_
      refine e_Ok.run (t' := (62, [(2, (0, z19)), (1, (0, z6)), (0, (1, 0))], [(0, z19)], w11)) 2 rfl ?_
      refine e_Ok.if1 rfl (fun h20 => ?_) (fun h20 => ?_)
      · replace h20 : (z19 : Int) < 0 := h20
        refine e_Ok.rets rfl rfl ?_
        exact ⟨rfl, hT13, ⟨f12, (e_uq hw11 (Or.inr (by first | decide | omega)) ((q7f 74 0 no_ct_1).trans rfl))⟩, Q14, by rw [show w11 74 1 = w 74 1 from (e_uq hw11 (Or.inr (by first | decide | omega)) ((q7f 74 1 no_ct_1).trans rfl))]; omega, by rw [show w11 74 1 = w 74 1 from (e_uq hw11 (Or.inr (by first | decide | omega)) ((q7f 74 1 no_ct_1).trans rfl))]; omega⟩
      · replace h20 : (z19 : Int) ≥ 0 := Int.not_lt.mp (show ¬ ((z19 : Int) < 0) from h20)
        refine e_Ok.ps3 (x := (0, z19)) (y := (0, 3)) (z := (1, 0)) (q := 68) 3 rfl ?_
        have ev9 : w11 74 1 = w 74 1 := (e_uq hw11 (Or.inr (by decide)) ((q7f 74 1 no_ct_1).trans rfl))
        have tm9 : w11 74 0 = w 74 0 := (e_uq hw11 (Or.inr (by decide)) ((q7f 74 0 no_ct_1).trans rfl))
        refine e_Ok.callV rfl (e_dq hd rfl) rfl rfl rfl rfl (c_265 (e_dq hd rfl) hT13 (by omega) (by omega) Q14 (by omega)) (fun r21 w22 h23 => ?_)
        obtain ⟨rfl, q24T, q24f, q24x⟩ := h23
        refine e_Ok.nrm (q := 71) (st' := []) rfl rfl ?_
        refine e_Ok.rets rfl rfl ?_
        exact ⟨rfl, q24T, ⟨(show e_fr kNq w w22 from e_fr.trans f12 (e_fr.mono q24f.1 (fun c k q => by exact q))), q24f.2.trans tm9⟩, q24x.1, by have g := q24x.2.2; omega, by have g := q24x.2.2; omega⟩
    · replace h10 : (z6 : Int) ≥ 0 := Int.not_lt.mp (show ¬ ((z6 : Int) < 0) from h10)
      refine e_Ok.jp rfl ⟨rfl, q7T, fun b g1 g2 => (Q9.arm g1 g2).1⟩ (fun w26 hw26 => ?_)
      have fHv : e_fr kHv w4 w26 := by rw [← hw26]; exact e_hk_fr _
      have QH := kI.hk Q9 hw26
      refine e_Ok.run (t' := (37, [(1, (0, z6)), (0, (1, 0))], [(0, z6), (0, 2), (1, 0)], w26)) 3 rfl ?_
      have ev9 : w26 74 1 = w 74 1 := ((fHv 74 1 no_ct_2).trans ((q7f 74 1 no_ct_1).trans rfl))
      have tm9 : w26 74 0 = w 74 0 := ((fHv 74 0 no_ct_2).trans ((q7f 74 0 no_ct_1).trans rfl))
      refine e_Ok.callV rfl (e_dq hd rfl) rfl rfl rfl rfl (c_265 (e_dq hd rfl) QH.1 (by omega) (by omega) QH (by omega)) (fun r28 w29 h30 => ?_)
      obtain ⟨rfl, q31T, q31f, q31x⟩ := h30
      refine e_Ok.nrm (q := 40) (st' := []) rfl rfl ?_
      refine e_Ok.rets rfl rfl ?_
      exact ⟨rfl, q31T, ⟨(show e_fr kNq w w29 from e_fr.trans (show e_fr kNq w w26 from e_fr.trans f8 (e_fr.mono fHv (fun c k q => by exact nq_kHv q))) (e_fr.mono q31f.1 (fun c k q => by exact q))), q31f.2.trans tm9⟩, q31x.1, by have g := q31x.2.2; omega, by have g := q31x.2.2; omega⟩
  · replace h2 : (w 74 7 : Int) ≠ 0 := (show ¬ ((w 74 7 : Int) = 0) from h2)
    refine e_Ok.run (t' := (20, [(1, (0, (-1))), (0, (1, 0))], [(0, (-1))], w)) 4 rfl ?_
    refine e_Ok.if1 rfl (fun h33 => ?_) (fun h33 => ?_)
    · replace h33 : ((-1) : Int) < 0 := h33
      refine e_Ok.ps1 (x := (1, 0)) (q := 42) 1 rfl ?_
      refine e_Ok.getr (z := 74) rfl (el_o rfl) rfl rfl (e_Has.eq hT (kt_o rfl)) ⟨by decide, by decide⟩ ?_
      refine e_Ok.ps1 (x := (0, 1)) (q := 46) 1 rfl ?_
      refine e_Ok.putb rfl (el_o rfl) rfl rfl (by omega) ?_
      generalize hw34 : e_up w 74 7 1 = w34
      have f35 : e_fr kNq w w34 := e_fr.up (e_fr.refl w) hw34 (by first | exact Or.inl ⟨rfl, (by decide)⟩ | (unfold kNq; omega))
      have hT36 : e_Has kTy w34 := e_Has.upr hT hw34 (kt_o rfl) (by omega)
      have Q37 := kI.hu q hT36 hw34 (hm_74 (by omega))
      refine e_Ok.ps1 (x := (1, 0)) (q := 50) 1 rfl ?_
      refine e_Ok.getr (z := 250) rfl (el_o rfl) rfl rfl (e_uq hw34 (Or.inl (by decide)) (e_Has.eq hT (kt_o rfl))) ⟨by decide, by decide⟩ ?_
      refine e_Ok.ps1 (x := (1, 0)) (q := 54) 1 rfl ?_
      refine e_Ok.getr (z := 9) rfl (el_o rfl) rfl rfl (e_uq hw34 (Or.inl (by decide)) (e_Has.eq hT (kt_o rfl))) ⟨by decide, by decide⟩ ?_
      refine e_Ok.callV rfl (e_dq hd rfl) rfl rfl rfl rfl (c_169 (e_dq hd rfl) hT36 (fun b g1 g2 => (Q37.arm g1 g2).1) (fun b g1 g2 => (Q37.arm g1 g2).2.1)) (fun r38 w40 h41 => ?_)
      obtain ⟨z43, rfl, rfl, q42r⟩ := h41
      refine e_Ok.nrm (q := 60) (st' := [(0, z43)]) rfl rfl ?_
      refine e_Ok.run (t' := (62, [(2, (0, z43)), (1, (0, (-1))), (0, (1, 0))], [(0, z43)], w34)) 2 rfl ?_
      refine e_Ok.if1 rfl (fun h44 => ?_) (fun h44 => ?_)
      · replace h44 : (z43 : Int) < 0 := h44
        refine e_Ok.rets rfl rfl ?_
        exact ⟨rfl, hT36, ⟨f35, (e_uq hw34 (Or.inr (by first | decide | omega)) rfl)⟩, Q37, by rw [show w34 74 1 = w 74 1 from (e_uq hw34 (Or.inr (by first | decide | omega)) rfl)]; omega, by rw [show w34 74 1 = w 74 1 from (e_uq hw34 (Or.inr (by first | decide | omega)) rfl)]; omega⟩
      · replace h44 : (z43 : Int) ≥ 0 := Int.not_lt.mp (show ¬ ((z43 : Int) < 0) from h44)
        refine e_Ok.ps3 (x := (0, z43)) (y := (0, 3)) (z := (1, 0)) (q := 68) 3 rfl ?_
        have ev9 : w34 74 1 = w 74 1 := (e_uq hw34 (Or.inr (by decide)) rfl)
        have tm9 : w34 74 0 = w 74 0 := (e_uq hw34 (Or.inr (by decide)) rfl)
        refine e_Ok.callV rfl (e_dq hd rfl) rfl rfl rfl rfl (c_265 (e_dq hd rfl) hT36 (by omega) (by omega) Q37 (by omega)) (fun r45 w46 h47 => ?_)
        obtain ⟨rfl, q48T, q48f, q48x⟩ := h47
        refine e_Ok.nrm (q := 71) (st' := []) rfl rfl ?_
        refine e_Ok.rets rfl rfl ?_
        exact ⟨rfl, q48T, ⟨(show e_fr kNq w w46 from e_fr.trans f35 (e_fr.mono q48f.1 (fun c k q => by exact q))), q48f.2.trans tm9⟩, q48x.1, by have g := q48x.2.2; omega, by have g := q48x.2.2; omega⟩
    · replace h33 : ((-1) : Int) ≥ 0 := Int.not_lt.mp (show ¬ (((-1) : Int) < 0) from h33)
      exfalso; omega
end
end
