noncomputable section
/-! the class: building calls -/
def kCn (c k : Int) : Prop := (11 ≤ c ∧ c ≤ 13) ∨ (15 ≤ c ∧ c ≤ 18)
def kPc (c k : Int) : Prop := c = 15 ∨ c = 18
def kCc (c k : Int) : Prop := (c = 74 ∧ k = 2) ∨ c = 77
def kMk (a cd : Int) (c k : Int) : Prop := (c = 17 * a + 86 ∧ ((8 ≤ k ∧ k ≤ 11) ∨ (13 ≤ k ∧ k ≤ 19))) ∨ (17 * a + 97 ≤ c ∧ c ≤ 17 * a + 102 ∧ 7 ≤ k ∧ k ≤ 9) ∨ (17 * a + 88 ≤ c ∧ c ≤ 17 * a + 93) ∨ (c = cd ∧ 0 ≤ k ∧ k ≤ 2)
def kAa (a cd : Int) (c k : Int) : Prop := kMk a cd c k ∨ (c = 0 ∧ k = 11)
theorem aR0.eq0 {w w' : eW} {a : Int} (h : aR0 w a) (e : ∀ c k, 17 * a + 86 ≤ c → c ≤ 17 * a + 102 → w' c k = w c k) : aR0 w' a := by
  obtain ⟨h1, h2, h3, h4, h5⟩ := h
  refine ⟨?_, fun j g1 g2 => ?_, fun k g1 g2 => ?_, h4.eq (fun c k g => e c k (by omega) (by omega)), h5.eq (fun c k g => e c k (by omega) (by omega))⟩
  · rw [e _ 11 (by omega) (by omega), e _ 13 (by omega) (by omega), e _ 14 (by omega) (by omega), e _ 15 (by omega) (by omega), e _ 16 (by omega) (by omega), e _ 17 (by omega) (by omega), e _ 18 (by omega) (by omega), e _ 19 (by omega) (by omega)]
    exact h1
  · rw [e _ 7 (by omega) (by omega), e _ 8 (by omega) (by omega), e _ 9 (by omega) (by omega)]
    exact h2 j g1 g2
  · rw [e _ k (by omega) (by omega)]
    exact h3 k g1 g2
set_option maxHeartbeats 4000000 in
theorem c_112 {d : Nat} (hd : 25 ≤ d) {w : eW} (hT : e_Has kTy w) (hA : kAc w) {p : Int} (g_p : 0 ≤ p ∧ p ≤ 63) {q : Int} (g_q : 0 ≤ q ∧ q ≤ 63) {t : Int} (g_t : 0 ≤ t ∧ t ≤ 1) (hn : ¬ ∃ n, kHit w q n p) : e_Ok 20 elay kcode eI d 112 (0, [(0, (1, 10)), (1, (0, p)), (2, (0, q)), (3, (0, t))], [], w) (fun r w' => r = [] ∧ e_fr kCn w w' ∧ e_Has kTy w' ∧ pTo w' ∧ (∀ p, 0 ≤ p → p ≤ 63 → ∃ k, (0 ≤ k ∧ k ≤ 63) ∧ w' 18 k = p) ∧ kAc w') := by
  obtain ⟨d, rfl⟩ : ∃ e, d = e + 1 := ⟨d - 1, by omega⟩
  refine e_Ok.run (t' := (1, [(0, (1, 10)), (1, (0, p)), (2, (0, q)), (3, (0, t))], [(1, 10)], w)) 1 rfl ?_
  refine e_Ok.getr (z := 15) rfl (el_o rfl) rfl rfl (Eq.trans (e_Has.eq hT rfl) (by omega)) (by omega) ?_
  refine e_Ok.run (t' := (6, [(0, (1, 10)), (1, (0, p)), (2, (0, q)), (3, (0, t))], [(0, p), (0, q), (1, 15)], w)) 2 rfl ?_
  refine e_Ok.ast rfl (el_o rfl) rfl rfl (by omega) ?_
  generalize hw1 : e_up w 15 q p = w1
  have f2 : e_fr kCn w w1 := e_fr.up (e_fr.refl w) hw1 (by unfold kCn; omega)
  have hT3 : e_Has kTy w1 := e_Has.upr hT hw1 rfl (by omega)
  refine e_Ok.run (t' := (8, [(0, (1, 10)), (1, (0, p)), (2, (0, q)), (3, (0, t))], [(1, 10)], w1)) 1 rfl ?_
  refine e_Ok.getr (z := 17) rfl (el_o rfl) rfl rfl (by rw [← hw1]; exact (e_up_ne _ _ (Or.inl (by omega))).trans (Eq.trans (e_Has.eq hT rfl) (by omega))) (by omega) ?_
  refine e_Ok.run (t' := (13, [(0, (1, 10)), (1, (0, p)), (2, (0, q)), (3, (0, t))], [(0, t), (0, q), (1, 17)], w1)) 2 rfl ?_
  refine e_Ok.ast rfl (el_o rfl) rfl (e_nar_b (by omega)) (by omega) ?_
  generalize hw4 : e_up w1 17 q t = w4
  have f5 : e_fr kCn w w4 := e_fr.up f2 hw4 (by unfold kCn; omega)
  have hT6 : e_Has kTy w4 := e_Has.upr hT3 hw4 rfl (by omega)
  refine e_Ok.run (t' := (15, [(0, (1, 10)), (1, (0, p)), (2, (0, q)), (3, (0, t))], [(1, 10)], w4)) 1 rfl ?_
  refine e_Ok.callV rfl (by omega) rfl rfl rfl rfl (c_115 hT6 (hA.wire (fun p _ _ => e_Has.get hT (c := 15) (k := p) (lo := -1) (hi := 63) rfl (by decide)) (by omega) (by omega) hn (fun k => by rw [← hw4, e_up_ne _ _ (by omega), ← hw1]; by_cases e : k = q; (rw [e, if_pos rfl]; exact e_up_eq _ _ _ _); (rw [if_neg e]; exact e_up_ne _ _ (by omega))))) (fun r7 w8 h9 => ?_)
  obtain ⟨rfl, af, aT, ap, ac⟩ := h9
  have f10 : e_fr kCn w w8 := e_fr.trans f5 (e_fr.mono af (fun c k q => by unfold kF18 at q; unfold kCn; omega))
  show e_Ok 20 elay kcode eI (d + 1) 112 (18, [(0, (1, 10)), (1, (0, p)), (2, (0, q)), (3, (0, t))], [], w8) _
  refine e_Ok.run (t' := (19, [(0, (1, 10)), (1, (0, p)), (2, (0, q)), (3, (0, t))], [(1, 10)], w8)) 1 rfl ?_
  refine e_Ok.callV rfl (by omega) rfl rfl rfl rfl (c_110 (by omega) aT) (fun r11 w12 h13 => ?_)
  obtain ⟨rfl, rf_, rT, -⟩ := h13
  have f14 : e_fr kCn w w12 := e_fr.trans f10 (e_fr.mono rf_ (fun c k q => by unfold kPr at q; unfold kCn; omega))
  show e_Ok 20 elay kcode eI (d + 1) 112 (22, [(0, (1, 10)), (1, (0, p)), (2, (0, q)), (3, (0, t))], [], w12) _
  refine e_Ok.rets rfl rfl ?_
  exact ⟨rfl, f14, rT, (fun i g1 g2 g3 => by rw [rf_ 18 _ (by unfold kPr; omega), rf_ 15 _ (by unfold kPr; omega)] at g3; obtain ⟨k, k1, k2⟩ := ap i g1 g2 g3; exact ⟨k, k1, by rw [rf_ 18 _ (by unfold kPr; omega), rf_ 15 _ (by unfold kPr; omega), rf_ 18 _ (by unfold kPr; omega)]; exact k2⟩), (fun p g1 g2 => by obtain ⟨k, k1, k2⟩ := ac p g1 g2; exact ⟨k, k1, by rw [rf_ 18 _ (by unfold kPr; omega)]; exact k2⟩), kAc.eq (fun k _ _ => by rw [rf_ 15 _ (by unfold kPr; omega), af 15 _ (by unfold kF18; omega)]) (hA.wire (fun p _ _ => e_Has.get hT (c := 15) (k := p) (lo := -1) (hi := 63) rfl (by decide)) (by omega) (by omega) hn (fun k => by rw [← hw4, e_up_ne _ _ (by omega), ← hw1]; by_cases e : k = q; (rw [e, if_pos rfl]; exact e_up_eq _ _ _ _); (rw [if_neg e]; exact e_up_ne _ _ (by omega))))⟩
theorem c_109 {d : Nat} (hd : 23 ≤ d) {w : eW} (hT : e_Has kTy w) : e_Ok 20 elay kcode eI d 109 (0, [(0, (1, 10))], [], w) (fun r w' => r = [] ∧ e_fr kPc w w' ∧ e_Has kTy w' ∧ pTo w' ∧ (∀ p, 0 ≤ p → p ≤ 63 → ∃ k, (0 ≤ k ∧ k ≤ 63) ∧ w' 18 k = p) ∧ kAc w') := by
  obtain ⟨d, rfl⟩ : ∃ e, d = e + 1 := ⟨d - 1, by omega⟩
  refine e_Ok.run (t' := (1, [(0, (1, 10))], [(1, 10)], w)) 1 rfl ?_
  refine e_Ok.getr (z := 15) rfl (el_o rfl) rfl rfl (Eq.trans (e_Has.eq hT rfl) (by omega)) (by omega) ?_
  refine e_Ok.run (t' := (5, [(0, (1, 10))], [(0, (-1)), (1, 15)], w)) 1 rfl ?_
  refine e_Ok.callS rfl (by omega) rfl rfl (c_452_15 hT) (fun r1 w2 h3 => ?_)
  obtain ⟨rfl, q4f, q4T, q4x⟩ := h3
  have f5 : e_fr kPc w w2 := e_fr.trans (e_fr.refl w) (e_fr.mono q4f (fun c k q => by unfold kF15 at q; unfold kPc; omega))
  show e_Ok 20 elay kcode eI (d + 1) 109 (8, [(0, (1, 10))], [], w2) _
  refine e_Ok.run (t' := (9, [(0, (1, 10))], [(1, 10)], w2)) 1 rfl ?_
  refine e_Ok.callV rfl (by omega) rfl rfl rfl rfl (c_115 q4T (kAc.none (fun k g1 g2 => by rw [q4x k g1 (by omega)]; omega))) (fun r6 w7 h8 => ?_)
  obtain ⟨rfl, af, aT, ap, ac⟩ := h8
  have f9 : e_fr kPc w w7 := e_fr.trans f5 (e_fr.mono af (fun c k q => by unfold kF18 at q; unfold kPc; omega))
  show e_Ok 20 elay kcode eI (d + 1) 109 (12, [(0, (1, 10))], [], w7) _
  refine e_Ok.rets rfl rfl ?_
  exact ⟨rfl, f9, aT, ap, ac, kAc.eq (fun k _ _ => af 15 k (by unfold kF18; omega)) (kAc.none (fun k g1 g2 => by rw [q4x k g1 (by omega)]; omega))⟩
theorem c_25 {d : Nat} {w : eW} (hT : e_Has kTy w) : e_Ok 20 elay kcode eI d 25 (0, [(0, (1, 74))], [], w) (fun r w' => r = [] ∧ e_fr kCc w w' ∧ e_Has kTy w') := by
  refine e_Ok.run (t' := (2, [(0, (1, 74))], [(0, 0), (1, 74)], w)) 2 rfl ?_
  refine e_Ok.putf rfl (el_o rfl) rfl rfl ?_
  generalize hw1 : e_up w 74 2 0 = w1
  have f2 : e_fr kCc w w1 := e_fr.up (e_fr.refl w) hw1 (by unfold kCc; omega)
  have hT3 : e_Has kTy w1 := e_Has.upr hT hw1 rfl (by omega)
  refine e_Ok.run (t' := (7, [(1, (0, 0)), (0, (1, 74))], [], w1)) 2 rfl ?_
  have hL4 : ∀ (nn : Nat) (y1 : Int) (v1 : eW), e_fr kCc w v1 ∧ e_Has kTy v1 ∧ (0 ≤ y1 ∧ y1 ≤ 8) → 9 - y1 < nn → e_Ok 20 elay kcode eI d 25 (7, [(0, (1, 74)), (1, (0, y1))], [], v1) (fun r w' => r = [] ∧ e_fr kCc w w' ∧ e_Has kTy w') := by
    intro nn
    induction nn with
    | zero => intro y1 v1 hj hm; obtain ⟨j6, j7, j8⟩ := hj; exfalso; omega
    | succ nn ih5 =>
      intro y1 v1 hj hm
      obtain ⟨j6, j7, j8⟩ := hj
      refine e_Ok.run (t' := (10, [(0, (1, 74)), (1, (0, y1))], [(0, 8), (0, y1)], v1)) 2 rfl ?_
      refine e_Ok.if2 rfl (fun h9 => ?_) (fun h9 => ?_)
      · replace h9 : (y1 : Int) ≥ 8 := h9
        refine e_Ok.rets rfl rfl ?_
        exact ⟨rfl, j6, j7⟩
      · replace h9 : (y1 : Int) < 8 := by have q : ¬ ((y1 : Int) ≥ 8) := h9; omega
        refine e_Ok.run (t' := (14, [(0, (1, 74)), (1, (0, y1))], [(1, 74)], v1)) 1 rfl ?_
        refine e_Ok.getr (z := 77) rfl (el_o rfl) rfl rfl ((j6 74 10 (by unfold kCc; omega)).trans (Eq.trans (e_Has.eq hT rfl) (by omega))) (by omega) ?_
        refine e_Ok.run (t' := (19, [(0, (1, 74)), (1, (0, y1))], [(0, 0), (0, y1), (1, 77)], v1)) 2 rfl ?_
        refine e_Ok.ast rfl (el_o rfl) rfl (e_nar_b (by omega)) (by omega) ?_
        generalize hw10 : e_up v1 77 y1 0 = w10
        have f11 : e_fr kCc w w10 := e_fr.up j6 hw10 (by unfold kCc; omega)
        have hT12 : e_Has kTy w10 := e_Has.upr j7 hw10 rfl (by omega)
        refine e_Ok.inc (z := y1 + 1) rfl rfl (by omega) (by omega) ?_
        show e_Ok 20 elay kcode eI d 25 (23, [(1, (0, y1 + 1)), (0, (1, 74))], [], w10) _
        refine e_Ok.run (t' := (7, [(1, (0, y1 + 1)), (0, (1, 74))], [], w10)) 1 rfl ?_
        refine e_Ok.sub kAlk (e_sub_of rfl ?_) (ih5 (y1 + 1) w10 ⟨f11, hT12, by omega⟩ (by omega))
        exact ⟨rfl, rfl, trivial⟩
  refine e_Ok.sub kAlk (e_sub_of rfl ?_) (hL4 (9 + 1 : Int).toNat 0 w1 ⟨f2, hT3, by omega⟩ (by omega))
  exact ⟨rfl, rfl, trivial⟩
set_option maxHeartbeats 4000000 in
theorem c_1 {d : Nat} (hd : 26 ≤ d) {w : eW} (hT : e_Has kTy w) {a cd : Int} (ga : 0 ≤ a ∧ a ≤ 3) (hc : w (17 * a + 86) 7 = cd) (hcd : isCd cd) {x : Int} (g_x : (-2147483648) ≤ x ∧ x ≤ 2147483647) {y : Int} (g_y : (-2147483648) ≤ y ∧ y ≤ 2147483647) {u : Int} (g_u : (-2147483648) ≤ u ∧ u ≤ 2147483647) {v : Int} (g_v : (-2147483648) ≤ v ∧ v ≤ 2147483647) : e_Ok 20 elay kcode eI d 1 (0, [(0, (1, 17 * a + 86)), (1, (0, x)), (2, (0, y)), (3, (0, u)), (4, (0, v))], [], w) (fun r w' => r = [] ∧ e_fr (kMk a cd) w w' ∧ e_Has kTy w' ∧ w' (17 * a + 86) 8 = 0 ∧ (w' (17 * a + 88) 0 = x ∧ w' (17 * a + 89) 0 = y) ∧ aR0 w' a ∧ (w' cd 0 = 0 ∧ w' cd 1 = 0)) := by
  obtain ⟨d, rfl⟩ : ∃ e, d = e + 1 := ⟨d - 1, by omega⟩
  have hcd2 := hcd; unfold isCd at hcd2
  have hcd3 : 2 ≤ cd ∧ cd ≤ 145 := by omega
  refine e_Ok.run (t' := (2, [(0, (1, 17 * a + 86)), (1, (0, x)), (2, (0, y)), (3, (0, u)), (4, (0, v))], [(0, 0), (1, 17 * a + 86)], w)) 2 rfl ?_
  refine e_Ok.putf rfl (lA0 (a := a) (by omega) (by omega)) rfl rfl ?_
  generalize hw1 : e_up w (17 * a + 86) 8 0 = w1
  have f2 : e_fr (kMk a cd) w w1 := e_fr.up (e_fr.refl w) hw1 (by unfold kMk; omega)
  have hT3 : e_Has kTy w1 := e_Has.upr hT hw1 (kA_8 (a := a) (by omega) (by omega)) (by omega)
  refine e_Ok.run (t' := (6, [(0, (1, 17 * a + 86)), (1, (0, x)), (2, (0, y)), (3, (0, u)), (4, (0, v))], [(1, 17 * a + 86)], w1)) 1 rfl ?_
  refine e_Ok.getr (z := 17 * a + 88) rfl (lA0 (a := a) (by omega) (by omega)) rfl rfl (by rw [← hw1]; exact (e_up_ne _ _ (Or.inr (by omega))).trans (Eq.trans (e_Has.eq hT (kA_1 (a := a) (by omega) (by omega))) (by omega))) (by omega) ?_
  refine e_Ok.run (t' := (11, [(0, (1, 17 * a + 86)), (1, (0, x)), (2, (0, y)), (3, (0, u)), (4, (0, v))], [(0, x), (0, 0), (1, 17 * a + 88)], w1)) 2 rfl ?_
  refine e_Ok.ast rfl (lA2 (a := a) (by omega) (by omega)) rfl rfl (by omega) ?_
  generalize hw4 : e_up w1 (17 * a + 88) 0 x = w4
  have f5 : e_fr (kMk a cd) w w4 := e_fr.up f2 hw4 (by unfold kMk; omega)
  have hT6 : e_Has kTy w4 := e_Has.ups hT3 hw4 (kA88 (a := a) _ (by omega) (by omega))
  refine e_Ok.run (t' := (13, [(0, (1, 17 * a + 86)), (1, (0, x)), (2, (0, y)), (3, (0, u)), (4, (0, v))], [(1, 17 * a + 86)], w4)) 1 rfl ?_
  refine e_Ok.getr (z := 17 * a + 89) rfl (lA0 (a := a) (by omega) (by omega)) rfl rfl (by rw [← hw4]; exact (e_up_ne _ _ (Or.inl (by omega))).trans (by rw [← hw1]; exact (e_up_ne _ _ (Or.inr (by omega))).trans (Eq.trans (e_Has.eq hT (kA_2 (a := a) (by omega) (by omega))) (by omega)))) (by omega) ?_
  refine e_Ok.run (t' := (18, [(0, (1, 17 * a + 86)), (1, (0, x)), (2, (0, y)), (3, (0, u)), (4, (0, v))], [(0, y), (0, 0), (1, 17 * a + 89)], w4)) 2 rfl ?_
  refine e_Ok.ast rfl (lA3 (a := a) (by omega) (by omega)) rfl rfl (by omega) ?_
  generalize hw7 : e_up w4 (17 * a + 89) 0 y = w7
  have f8 : e_fr (kMk a cd) w w7 := e_fr.up f5 hw7 (by unfold kMk; omega)
  have hT9 : e_Has kTy w7 := e_Has.ups hT6 hw7 (kA89 (a := a) _ (by omega) (by omega))
  refine e_Ok.run (t' := (21, [(0, (1, 17 * a + 86)), (1, (0, x)), (2, (0, y)), (3, (0, u)), (4, (0, v))], [(0, u), (1, 17 * a + 86)], w7)) 2 rfl ?_
  refine e_Ok.putf rfl (lA0 (a := a) (by omega) (by omega)) rfl rfl ?_
  generalize hw10 : e_up w7 (17 * a + 86) 9 u = w10
  have f11 : e_fr (kMk a cd) w w10 := e_fr.up f8 hw10 (by unfold kMk; omega)
  have hT12 : e_Has kTy w10 := e_Has.upr hT9 hw10 (kA_9 (a := a) (by omega) (by omega)) (by omega)
  refine e_Ok.run (t' := (27, [(0, (1, 17 * a + 86)), (1, (0, x)), (2, (0, y)), (3, (0, u)), (4, (0, v))], [(0, v), (1, 17 * a + 86)], w10)) 2 rfl ?_
  refine e_Ok.putf rfl (lA0 (a := a) (by omega) (by omega)) rfl rfl ?_
  generalize hw13 : e_up w10 (17 * a + 86) 10 v = w13
  have f14 : e_fr (kMk a cd) w w13 := e_fr.up f11 hw13 (by unfold kMk; omega)
  have hT15 : e_Has kTy w13 := e_Has.upr hT12 hw13 (kA_10 (a := a) (by omega) (by omega)) (by omega)
  refine e_Ok.run (t' := (31, [(0, (1, 17 * a + 86)), (1, (0, x)), (2, (0, y)), (3, (0, u)), (4, (0, v))], [(1, 17 * a + 86)], w13)) 1 rfl ?_
  refine e_Ok.getr (z := 17 * a + 92) rfl (lA0 (a := a) (by omega) (by omega)) rfl rfl (by rw [← hw13]; exact (e_up_ne _ _ (Or.inr (by omega))).trans (by rw [← hw10]; exact (e_up_ne _ _ (Or.inr (by omega))).trans (by rw [← hw7]; exact (e_up_ne _ _ (Or.inl (by omega))).trans (by rw [← hw4]; exact (e_up_ne _ _ (Or.inl (by omega))).trans (by rw [← hw1]; exact (e_up_ne _ _ (Or.inr (by omega))).trans (Eq.trans (e_Has.eq hT (kA_5 (a := a) (by omega) (by omega))) (by omega))))))) (by omega) ?_
  refine e_Ok.run (t' := (35, [(0, (1, 17 * a + 86)), (1, (0, x)), (2, (0, y)), (3, (0, u)), (4, (0, v))], [(0, 0), (1, 17 * a + 92)], w13)) 1 rfl ?_
  refine e_Ok.callS rfl (by omega) rfl rfl (c_452_92 (a := a) hT15 (by omega)) (fun r16 w17 h18 => ?_)
  obtain ⟨rfl, q19f, q19T, q19x⟩ := h18
  have f20 : e_fr (kMk a cd) w w17 := e_fr.trans f14 (e_fr.mono q19f (fun c k q => by unfold kF92 at q; unfold kMk; omega))
  show e_Ok 20 elay kcode eI (d + 1) 1 (38, [(0, (1, 17 * a + 86)), (1, (0, x)), (2, (0, y)), (3, (0, u)), (4, (0, v))], [], w17) _
  refine e_Ok.run (t' := (39, [(0, (1, 17 * a + 86)), (1, (0, x)), (2, (0, y)), (3, (0, u)), (4, (0, v))], [(1, 17 * a + 86)], w17)) 1 rfl ?_
  refine e_Ok.getr (z := cd) rfl (lA0 (a := a) (by omega) (by omega)) rfl rfl ((q19f (17 * a + 86) 7 (by unfold kF92; omega)).trans (by rw [← hw13]; exact (e_up_ne _ _ (Or.inr (by omega))).trans (by rw [← hw10]; exact (e_up_ne _ _ (Or.inr (by omega))).trans (by rw [← hw7]; exact (e_up_ne _ _ (Or.inl (by omega))).trans (by rw [← hw4]; exact (e_up_ne _ _ (Or.inl (by omega))).trans (by rw [← hw1]; exact (e_up_ne _ _ (Or.inr (by omega))).trans hc)))))) (by omega) ?_
  refine e_Ok.callV rfl (by omega) rfl (lD0 hcd) rfl rfl (c_20 q19T hcd) (fun r21 w22 h23 => ?_)
  obtain ⟨rfl, cf, cT, c0_, c1_, c2_⟩ := h23
  have f24 : e_fr (kMk a cd) w w22 := e_fr.trans f20 (e_fr.mono cf (fun c k q => by unfold kCl0 at q; unfold kMk; omega))
  show e_Ok 20 elay kcode eI (d + 1) 1 (45, [(0, (1, 17 * a + 86)), (1, (0, x)), (2, (0, y)), (3, (0, u)), (4, (0, v))], [], w22) _
  refine e_Ok.run (t' := (46, [(0, (1, 17 * a + 86)), (1, (0, x)), (2, (0, y)), (3, (0, u)), (4, (0, v))], [(1, 17 * a + 86)], w22)) 1 rfl ?_
  have kx : w22 (17 * a + 88) 0 = x := ((cf (17 * a + 88) 0 (by unfold kCl0; omega)).trans ((q19f (17 * a + 88) 0 (by unfold kF92; omega)).trans (by rw [← hw13]; exact (e_up_ne _ _ (Or.inl (by omega))).trans (by rw [← hw10]; exact (e_up_ne _ _ (Or.inl (by omega))).trans (by rw [← hw7]; exact (e_up_ne _ _ (Or.inl (by omega))).trans (by rw [← hw4]; exact e_up_eq _ _ _ _))))))
  have ky : w22 (17 * a + 89) 0 = y := ((cf (17 * a + 89) 0 (by unfold kCl0; omega)).trans ((q19f (17 * a + 89) 0 (by unfold kF92; omega)).trans (by rw [← hw13]; exact (e_up_ne _ _ (Or.inl (by omega))).trans (by rw [← hw10]; exact (e_up_ne _ _ (Or.inl (by omega))).trans (by rw [← hw7]; exact e_up_eq _ _ _ _)))))
  have k8 : w22 (17 * a + 86) 8 = 0 := ((cf (17 * a + 86) 8 (by unfold kCl0; omega)).trans ((q19f (17 * a + 86) 8 (by unfold kF92; omega)).trans (by rw [← hw13]; exact (e_up_ne _ _ (Or.inr (by omega))).trans (by rw [← hw10]; exact (e_up_ne _ _ (Or.inr (by omega))).trans (by rw [← hw7]; exact (e_up_ne _ _ (Or.inl (by omega))).trans (by rw [← hw4]; exact (e_up_ne _ _ (Or.inl (by omega))).trans (by rw [← hw1]; exact e_up_eq _ _ _ _)))))))
  refine e_Ok.callV rfl (by omega) rfl (lA0 (a := a) (by omega) (by omega)) rfl rfl (c_3_k (by omega) (a := a) cT (by omega) (by unfold kn1; omega) (by unfold kn1; omega)) (fun r25 w26 h27 => ?_)
  obtain ⟨rfl, rf_, rT, ra_, -⟩ := h27
  have f28 : e_fr (kMk a cd) w w26 := e_fr.trans f24 (e_fr.mono rf_ (fun c k q => by unfold kAr at q; unfold kMk; omega))
  show e_Ok 20 elay kcode eI (d + 1) 1 (49, [(0, (1, 17 * a + 86)), (1, (0, x)), (2, (0, y)), (3, (0, u)), (4, (0, v))], [], w26) _
  refine e_Ok.rets rfl rfl ?_
  exact ⟨rfl, f28, rT, (by rw [rf_ _ _ (by unfold kAr; omega)]; exact k8), ⟨by rw [rf_ _ _ (by unfold kAr; omega)]; exact kx, by rw [rf_ _ _ (by unfold kAr; omega)]; exact ky⟩, ra_, ⟨(rf_ _ _ (by unfold kAr; omega)).trans c0_, (rf_ _ _ (by unfold kAr; omega)).trans c1_⟩⟩
set_option maxHeartbeats 4000000 in
theorem c_193 {d : Nat} (hd : 28 ≤ d) {w : eW} (hT : e_Has kTy w) (hO : 0 ≤ w 0 13 ∧ w 0 13 ≤ 1) {n cd : Int} (hn : w 0 11 = n) (hn3 : n ≤ 3) (hc : w (17 * n + 86) 7 = cd) (hcd : isCd cd) {x : Int} (g_x : (-2147483648) ≤ x ∧ x ≤ 2147483647) {y : Int} (g_y : (-2147483648) ≤ y ∧ y ≤ 2147483647) {u : Int} (g_u : (-2147483648) ≤ u ∧ u ≤ 2147483647) {v : Int} (g_v : (-2147483648) ≤ v ∧ v ≤ 2147483647) : e_Ok 20 elay kcode eI d 193 (0, [(0, (1, 0)), (1, (0, x)), (2, (0, y)), (3, (0, u)), (4, (0, v))], [], w) (fun r w' => ∃ z : Int, r = [(0, z)] ∧ e_Has kTy w' ∧ ((w' = w ∧ ¬ ((-8000 ≤ x ∧ x ≤ 8000) ∧ (-8000 ≤ y ∧ y ≤ 8000) ∧ (0 ≤ u ∧ u ≤ 4095) ∧ (0 ≤ v ∧ v ≤ 800) ∧ w 0 13 = 0 ∧ n ≤ 3)) ∨ (((-8000 ≤ x ∧ x ≤ 8000) ∧ (-8000 ≤ y ∧ y ≤ 8000) ∧ (0 ≤ u ∧ u ≤ 4095) ∧ (0 ≤ v ∧ v ≤ 800) ∧ w 0 13 = 0 ∧ n ≤ 3) ∧ e_fr (kAa n cd) w w' ∧ (0 ≤ n ∧ n ≤ 3) ∧ w' 0 11 = n + 1 ∧ w' (17 * n + 86) 8 = 0 ∧ (kn1 (w' (17 * n + 88) 0) ∧ kn1 (w' (17 * n + 89) 0)) ∧ aR0 w' n ∧ w' cd 0 = 0 ∧ w' cd 1 = 0))) := by
  obtain ⟨d, rfl⟩ : ∃ e, d = e + 1 := ⟨d - 1, by omega⟩
  have hw0 := e_Has.get hT (c := 0) (k := 11) (lo := 0) (hi := 4) rfl (by decide)
  have hcd2 := hcd; unfold isCd at hcd2
  have hcd3 : 2 ≤ cd ∧ cd ≤ 145 := by omega
  refine e_Ok.run (t' := (7, [(0, (1, 0)), (1, (0, x)), (2, (0, y)), (3, (0, u)), (4, (0, v))], [(0, 8000), (0, (-8000)), (0, x)], w)) 3 rfl ?_
  refine e_Ok.callS rfl (by omega) rfl rfl (c_242 (by omega) (by omega) (by omega)) (fun r1 w2 h3 => ?_)
  obtain ⟨z4, rfl, rfl, q5⟩ := h3
  obtain ⟨rfl, q5⟩ | ⟨rfl, q5⟩ := q5
  · show e_Ok 20 elay kcode eI (d + 1) 193 (10, [(0, (1, 0)), (1, (0, x)), (2, (0, y)), (3, (0, u)), (4, (0, v))], [(0, 1)], w) _
    refine e_Ok.if1 rfl (fun h6 => ?_) (fun h6 => ?_)
    · replace h6 : (1 : Int) = 0 := h6
      exfalso; omega
    · replace h6 : (1 : Int) ≠ 0 := by have q : ¬ ((1 : Int) = 0) := h6; omega
      refine e_Ok.run (t' := (20, [(0, (1, 0)), (1, (0, x)), (2, (0, y)), (3, (0, u)), (4, (0, v))], [(0, 8000), (0, (-8000)), (0, y)], w)) 3 rfl ?_
      refine e_Ok.callS rfl (by omega) rfl rfl (c_242 (by omega) (by omega) (by omega)) (fun r7 w8 h9 => ?_)
      obtain ⟨z10, rfl, rfl, q11⟩ := h9
      obtain ⟨rfl, q11⟩ | ⟨rfl, q11⟩ := q11
      · show e_Ok 20 elay kcode eI (d + 1) 193 (23, [(0, (1, 0)), (1, (0, x)), (2, (0, y)), (3, (0, u)), (4, (0, v))], [(0, 1)], w) _
        refine e_Ok.if1 rfl (fun h12 => ?_) (fun h12 => ?_)
        · replace h12 : (1 : Int) ≠ 0 := h12
          refine e_Ok.run (t' := (33, [(0, (1, 0)), (1, (0, x)), (2, (0, y)), (3, (0, u)), (4, (0, v))], [(0, 4095), (0, 0), (0, u)], w)) 3 rfl ?_
          refine e_Ok.callS rfl (by omega) rfl rfl (c_242 (by omega) (by omega) (by omega)) (fun r13 w14 h15 => ?_)
          obtain ⟨z16, rfl, rfl, q17⟩ := h15
          obtain ⟨rfl, q17⟩ | ⟨rfl, q17⟩ := q17
          · show e_Ok 20 elay kcode eI (d + 1) 193 (36, [(0, (1, 0)), (1, (0, x)), (2, (0, y)), (3, (0, u)), (4, (0, v))], [(0, 1)], w) _
            refine e_Ok.if1 rfl (fun h18 => ?_) (fun h18 => ?_)
            · replace h18 : (1 : Int) = 0 := h18
              exfalso; omega
            · replace h18 : (1 : Int) ≠ 0 := by have q : ¬ ((1 : Int) = 0) := h18; omega
              refine e_Ok.run (t' := (45, [(0, (1, 0)), (1, (0, x)), (2, (0, y)), (3, (0, u)), (4, (0, v))], [(0, 800), (0, 0), (0, v)], w)) 3 rfl ?_
              refine e_Ok.callS rfl (by omega) rfl rfl (c_242 (by omega) (by omega) (by omega)) (fun r19 w20 h21 => ?_)
              obtain ⟨z22, rfl, rfl, q23⟩ := h21
              obtain ⟨rfl, q23⟩ | ⟨rfl, q23⟩ := q23
              · show e_Ok 20 elay kcode eI (d + 1) 193 (48, [(0, (1, 0)), (1, (0, x)), (2, (0, y)), (3, (0, u)), (4, (0, v))], [(0, 1)], w) _
                refine e_Ok.if1 rfl (fun h24 => ?_) (fun h24 => ?_)
                · replace h24 : (1 : Int) ≠ 0 := h24
                  refine e_Ok.run (t' := (54, [(0, (1, 0)), (1, (0, x)), (2, (0, y)), (3, (0, u)), (4, (0, v))], [(1, 0)], w)) 1 rfl ?_
                  refine e_Ok.getf (z := w 0 13) rfl (el_o rfl) rfl rfl rfl (by omega) ?_
                  refine e_Ok.if1 rfl (fun h25 => ?_) (fun h25 => ?_)
                  · replace h25 : (w 0 13 : Int) = 0 := h25
                    refine e_Ok.run (t' := (64, [(0, (1, 0)), (1, (0, x)), (2, (0, y)), (3, (0, u)), (4, (0, v))], [(1, 0)], w)) 1 rfl ?_
                    refine e_Ok.getf (z := n) rfl (el_o rfl) rfl rfl hn (by omega) ?_
                    refine e_Ok.run (t' := (68, [(0, (1, 0)), (1, (0, x)), (2, (0, y)), (3, (0, u)), (4, (0, v))], [(0, 4), (0, n)], w)) 1 rfl ?_
                    refine e_Ok.if2 rfl (fun h26 => ?_) (fun h26 => ?_)
                    · replace h26 : (n : Int) < 4 := h26
                      refine e_Ok.run (t' := (75, [(0, (1, 0)), (1, (0, x)), (2, (0, y)), (3, (0, u)), (4, (0, v))], [(1, 0)], w)) 1 rfl ?_
                      refine e_Ok.getr (z := 9) rfl (el_o rfl) rfl rfl (Eq.trans (e_Has.eq hT rfl) (by omega)) (by omega) ?_
                      refine e_Ok.run (t' := (79, [(0, (1, 0)), (1, (0, x)), (2, (0, y)), (3, (0, u)), (4, (0, v))], [(1, 0), (1, 9)], w)) 1 rfl ?_
                      refine e_Ok.getf (z := n) rfl (el_o rfl) rfl rfl hn (by omega) ?_
                      refine e_Ok.aald (z := 17 * n + 86) rfl (el_o rfl) rfl (by omega) (Eq.trans (e_Has.eq hT (k9 (by omega))) (by omega)) (by omega) ?_
                      refine e_Ok.run (t' := (88, [(0, (1, 0)), (1, (0, x)), (2, (0, y)), (3, (0, u)), (4, (0, v))], [(0, v), (0, u), (0, y), (0, x), (1, 17 * n + 86)], w)) 4 rfl ?_
                      refine e_Ok.callV rfl (by omega) rfl (lA0 (a := n) (by omega) (by omega)) rfl rfl (c_1 (by omega) (a := n) (cd := cd) hT (by omega) hc hcd (by omega) (by omega) (by omega) (by omega)) (fun r27 w28 h29 => ?_)
                      obtain ⟨rfl, mf, mT, m8, mx, mr, mc⟩ := h29
                      have f30 : e_fr (kAa n cd) w w28 := e_fr.trans (e_fr.refl w) (e_fr.mono mf (fun c k q => by exact Or.inl q))
                      show e_Ok 20 elay kcode eI (d + 1) 193 (91, [(0, (1, 0)), (1, (0, x)), (2, (0, y)), (3, (0, u)), (4, (0, v))], [], w28) _
                      refine e_Ok.run (t' := (93, [(0, (1, 0)), (1, (0, x)), (2, (0, y)), (3, (0, u)), (4, (0, v))], [(1, 0), (1, 0)], w28)) 2 rfl ?_
                      refine e_Ok.getf (z := n) rfl (el_o rfl) rfl rfl ((mf 0 11 (by unfold kMk; omega)).trans hn) (by omega) ?_
                      refine e_Ok.run (t' := (97, [(0, (1, 0)), (1, (0, x)), (2, (0, y)), (3, (0, u)), (4, (0, v))], [(0, 1), (0, n), (1, 0)], w28)) 1 rfl ?_
                      refine e_Ok.add (z := n + 1) rfl (by omega) (by omega) ?_
                      refine e_Ok.putf rfl (el_o rfl) rfl rfl ?_
                      generalize hw31 : e_up w28 0 11 (n + 1) = w31
                      have f32 : e_fr (kAa n cd) w w31 := e_fr.up f30 hw31 (by unfold kAa kMk; omega)
                      have hT33 : e_Has kTy w31 := e_Has.upr mT hw31 rfl (by omega)
                      refine e_Ok.run (t' := (102, [(0, (1, 0)), (1, (0, x)), (2, (0, y)), (3, (0, u)), (4, (0, v))], [(1, 0)], w31)) 1 rfl ?_
                      refine e_Ok.getf (z := n + 1) rfl (el_o rfl) rfl rfl (by rw [← hw31]; exact e_up_eq _ _ _ _) (by omega) ?_
                      refine e_Ok.run (t' := (106, [(0, (1, 0)), (1, (0, x)), (2, (0, y)), (3, (0, u)), (4, (0, v))], [(0, 1), (0, n + 1)], w31)) 1 rfl ?_
                      refine e_Ok.sub' (z := n) rfl (by omega) (by omega) ?_
                      refine e_Ok.rets rfl rfl ?_
                      exact ⟨_, rfl, hT33, Or.inr ⟨by omega, f32, ⟨by omega, by omega⟩, (by rw [← hw31]; exact e_up_eq _ _ _ _), (by rw [← hw31, e_up_ne _ _ (by omega)]; exact m8), ⟨by rw [← hw31, e_up_ne _ _ (by omega), mx.1]; unfold kn1; omega, by rw [← hw31, e_up_ne _ _ (by omega), mx.2]; unfold kn1; omega⟩, mr.eq0 (fun c k g1 g2 => by rw [← hw31, e_up_ne _ _ (by omega)]), (by rw [← hw31, e_up_ne _ _ (by omega)]; exact mc.1), (by rw [← hw31, e_up_ne _ _ (by omega)]; exact mc.2)⟩⟩
                    · replace h26 : (n : Int) ≥ 4 := by have q : ¬ ((n : Int) < 4) := h26; omega
                      exfalso; omega
                  · replace h25 : (w 0 13 : Int) ≠ 0 := by have q : ¬ ((w 0 13 : Int) = 0) := h25; omega
                    refine e_Ok.run (t' := (62, [(0, (1, 0)), (1, (0, x)), (2, (0, y)), (3, (0, u)), (4, (0, v))], [(0, (-2))], w)) 1 rfl ?_
                    refine e_Ok.rets rfl rfl ?_
                    exact ⟨_, rfl, hT, Or.inl ⟨rfl, by omega⟩⟩
                · replace h24 : (1 : Int) = 0 := by have q : ¬ ((1 : Int) ≠ 0) := h24; omega
                  exfalso; omega
              · show e_Ok 20 elay kcode eI (d + 1) 193 (48, [(0, (1, 0)), (1, (0, x)), (2, (0, y)), (3, (0, u)), (4, (0, v))], [(0, 0)], w) _
                refine e_Ok.if1 rfl (fun h34 => ?_) (fun h34 => ?_)
                · replace h34 : (0 : Int) ≠ 0 := h34
                  exfalso; omega
                · replace h34 : (0 : Int) = 0 := by have q : ¬ ((0 : Int) ≠ 0) := h34; omega
                  refine e_Ok.run (t' := (52, [(0, (1, 0)), (1, (0, x)), (2, (0, y)), (3, (0, u)), (4, (0, v))], [(0, (-1))], w)) 1 rfl ?_
                  refine e_Ok.rets rfl rfl ?_
                  exact ⟨_, rfl, hT, Or.inl ⟨rfl, by omega⟩⟩
          · show e_Ok 20 elay kcode eI (d + 1) 193 (36, [(0, (1, 0)), (1, (0, x)), (2, (0, y)), (3, (0, u)), (4, (0, v))], [(0, 0)], w) _
            refine e_Ok.if1 rfl (fun h35 => ?_) (fun h35 => ?_)
            · replace h35 : (0 : Int) = 0 := h35
              refine e_Ok.run (t' := (52, [(0, (1, 0)), (1, (0, x)), (2, (0, y)), (3, (0, u)), (4, (0, v))], [(0, (-1))], w)) 1 rfl ?_
              refine e_Ok.rets rfl rfl ?_
              exact ⟨_, rfl, hT, Or.inl ⟨rfl, by omega⟩⟩
            · replace h35 : (0 : Int) ≠ 0 := by have q : ¬ ((0 : Int) = 0) := h35; omega
              exfalso; omega
        · replace h12 : (1 : Int) = 0 := by have q : ¬ ((1 : Int) ≠ 0) := h12; omega
          exfalso; omega
      · show e_Ok 20 elay kcode eI (d + 1) 193 (23, [(0, (1, 0)), (1, (0, x)), (2, (0, y)), (3, (0, u)), (4, (0, v))], [(0, 0)], w) _
        refine e_Ok.if1 rfl (fun h36 => ?_) (fun h36 => ?_)
        · replace h36 : (0 : Int) ≠ 0 := h36
          exfalso; omega
        · replace h36 : (0 : Int) = 0 := by have q : ¬ ((0 : Int) ≠ 0) := h36; omega
          refine e_Ok.run (t' := (27, [(0, (1, 0)), (1, (0, x)), (2, (0, y)), (3, (0, u)), (4, (0, v))], [(0, (-1))], w)) 1 rfl ?_
          refine e_Ok.rets rfl rfl ?_
          exact ⟨_, rfl, hT, Or.inl ⟨rfl, by omega⟩⟩
  · show e_Ok 20 elay kcode eI (d + 1) 193 (10, [(0, (1, 0)), (1, (0, x)), (2, (0, y)), (3, (0, u)), (4, (0, v))], [(0, 0)], w) _
    refine e_Ok.if1 rfl (fun h37 => ?_) (fun h37 => ?_)
    · replace h37 : (0 : Int) = 0 := h37
      refine e_Ok.run (t' := (27, [(0, (1, 0)), (1, (0, x)), (2, (0, y)), (3, (0, u)), (4, (0, v))], [(0, (-1))], w)) 1 rfl ?_
      refine e_Ok.rets rfl rfl ?_
      exact ⟨_, rfl, hT, Or.inl ⟨rfl, by omega⟩⟩
    · replace h37 : (0 : Int) ≠ 0 := by have q : ¬ ((0 : Int) = 0) := h37; omega
      exfalso; omega
set_option maxHeartbeats 4000000 in
theorem c_193_4 {d : Nat} (hd : 28 ≤ d) {w : eW} (hT : e_Has kTy w) (hO : 0 ≤ w 0 13 ∧ w 0 13 ≤ 1) (hn : w 0 11 = 4) {x : Int} (g_x : (-2147483648) ≤ x ∧ x ≤ 2147483647) {y : Int} (g_y : (-2147483648) ≤ y ∧ y ≤ 2147483647) {u : Int} (g_u : (-2147483648) ≤ u ∧ u ≤ 2147483647) {v : Int} (g_v : (-2147483648) ≤ v ∧ v ≤ 2147483647) : e_Ok 20 elay kcode eI d 193 (0, [(0, (1, 0)), (1, (0, x)), (2, (0, y)), (3, (0, u)), (4, (0, v))], [], w) (fun r w' => ∃ z : Int, r = [(0, z)] ∧ w' = w) := by
  obtain ⟨d, rfl⟩ : ∃ e, d = e + 1 := ⟨d - 1, by omega⟩
  refine e_Ok.run (t' := (7, [(0, (1, 0)), (1, (0, x)), (2, (0, y)), (3, (0, u)), (4, (0, v))], [(0, 8000), (0, (-8000)), (0, x)], w)) 3 rfl ?_
  refine e_Ok.callS rfl (by omega) rfl rfl (c_242 (by omega) (by omega) (by omega)) (fun r1 w2 h3 => ?_)
  obtain ⟨z4, rfl, rfl, q5⟩ := h3
  obtain ⟨rfl, q5⟩ | ⟨rfl, q5⟩ := q5
  · show e_Ok 20 elay kcode eI (d + 1) 193 (10, [(0, (1, 0)), (1, (0, x)), (2, (0, y)), (3, (0, u)), (4, (0, v))], [(0, 1)], w) _
    refine e_Ok.if1 rfl (fun h6 => ?_) (fun h6 => ?_)
    · replace h6 : (1 : Int) = 0 := h6
      exfalso; omega
    · replace h6 : (1 : Int) ≠ 0 := by have q : ¬ ((1 : Int) = 0) := h6; omega
      refine e_Ok.run (t' := (20, [(0, (1, 0)), (1, (0, x)), (2, (0, y)), (3, (0, u)), (4, (0, v))], [(0, 8000), (0, (-8000)), (0, y)], w)) 3 rfl ?_
      refine e_Ok.callS rfl (by omega) rfl rfl (c_242 (by omega) (by omega) (by omega)) (fun r7 w8 h9 => ?_)
      obtain ⟨z10, rfl, rfl, q11⟩ := h9
      obtain ⟨rfl, q11⟩ | ⟨rfl, q11⟩ := q11
      · show e_Ok 20 elay kcode eI (d + 1) 193 (23, [(0, (1, 0)), (1, (0, x)), (2, (0, y)), (3, (0, u)), (4, (0, v))], [(0, 1)], w) _
        refine e_Ok.if1 rfl (fun h12 => ?_) (fun h12 => ?_)
        · replace h12 : (1 : Int) ≠ 0 := h12
          refine e_Ok.run (t' := (33, [(0, (1, 0)), (1, (0, x)), (2, (0, y)), (3, (0, u)), (4, (0, v))], [(0, 4095), (0, 0), (0, u)], w)) 3 rfl ?_
          refine e_Ok.callS rfl (by omega) rfl rfl (c_242 (by omega) (by omega) (by omega)) (fun r13 w14 h15 => ?_)
          obtain ⟨z16, rfl, rfl, q17⟩ := h15
          obtain ⟨rfl, q17⟩ | ⟨rfl, q17⟩ := q17
          · show e_Ok 20 elay kcode eI (d + 1) 193 (36, [(0, (1, 0)), (1, (0, x)), (2, (0, y)), (3, (0, u)), (4, (0, v))], [(0, 1)], w) _
            refine e_Ok.if1 rfl (fun h18 => ?_) (fun h18 => ?_)
            · replace h18 : (1 : Int) = 0 := h18
              exfalso; omega
            · replace h18 : (1 : Int) ≠ 0 := by have q : ¬ ((1 : Int) = 0) := h18; omega
              refine e_Ok.run (t' := (45, [(0, (1, 0)), (1, (0, x)), (2, (0, y)), (3, (0, u)), (4, (0, v))], [(0, 800), (0, 0), (0, v)], w)) 3 rfl ?_
              refine e_Ok.callS rfl (by omega) rfl rfl (c_242 (by omega) (by omega) (by omega)) (fun r19 w20 h21 => ?_)
              obtain ⟨z22, rfl, rfl, q23⟩ := h21
              obtain ⟨rfl, q23⟩ | ⟨rfl, q23⟩ := q23
              · show e_Ok 20 elay kcode eI (d + 1) 193 (48, [(0, (1, 0)), (1, (0, x)), (2, (0, y)), (3, (0, u)), (4, (0, v))], [(0, 1)], w) _
                refine e_Ok.if1 rfl (fun h24 => ?_) (fun h24 => ?_)
                · replace h24 : (1 : Int) ≠ 0 := h24
                  refine e_Ok.run (t' := (54, [(0, (1, 0)), (1, (0, x)), (2, (0, y)), (3, (0, u)), (4, (0, v))], [(1, 0)], w)) 1 rfl ?_
                  refine e_Ok.getf (z := w 0 13) rfl (el_o rfl) rfl rfl rfl (by omega) ?_
                  refine e_Ok.if1 rfl (fun h25 => ?_) (fun h25 => ?_)
                  · replace h25 : (w 0 13 : Int) = 0 := h25
                    refine e_Ok.run (t' := (64, [(0, (1, 0)), (1, (0, x)), (2, (0, y)), (3, (0, u)), (4, (0, v))], [(1, 0)], w)) 1 rfl ?_
                    refine e_Ok.getf (z := 4) rfl (el_o rfl) rfl rfl hn (by omega) ?_
                    refine e_Ok.run (t' := (68, [(0, (1, 0)), (1, (0, x)), (2, (0, y)), (3, (0, u)), (4, (0, v))], [(0, 4), (0, 4)], w)) 1 rfl ?_
                    refine e_Ok.if2 rfl (fun h26 => ?_) (fun h26 => ?_)
                    · replace h26 : (4 : Int) < 4 := h26
                      exfalso; omega
                    · replace h26 : (4 : Int) ≥ 4 := by have q : ¬ ((4 : Int) < 4) := h26; omega
                      refine e_Ok.run (t' := (73, [(0, (1, 0)), (1, (0, x)), (2, (0, y)), (3, (0, u)), (4, (0, v))], [(0, (-3))], w)) 1 rfl ?_
                      refine e_Ok.rets rfl rfl ?_
                      exact ⟨_, rfl, rfl⟩
                  · replace h25 : (w 0 13 : Int) ≠ 0 := by have q : ¬ ((w 0 13 : Int) = 0) := h25; omega
                    refine e_Ok.run (t' := (62, [(0, (1, 0)), (1, (0, x)), (2, (0, y)), (3, (0, u)), (4, (0, v))], [(0, (-2))], w)) 1 rfl ?_
                    refine e_Ok.rets rfl rfl ?_
                    exact ⟨_, rfl, rfl⟩
                · replace h24 : (1 : Int) = 0 := by have q : ¬ ((1 : Int) ≠ 0) := h24; omega
                  exfalso; omega
              · show e_Ok 20 elay kcode eI (d + 1) 193 (48, [(0, (1, 0)), (1, (0, x)), (2, (0, y)), (3, (0, u)), (4, (0, v))], [(0, 0)], w) _
                refine e_Ok.if1 rfl (fun h27 => ?_) (fun h27 => ?_)
                · replace h27 : (0 : Int) ≠ 0 := h27
                  exfalso; omega
                · replace h27 : (0 : Int) = 0 := by have q : ¬ ((0 : Int) ≠ 0) := h27; omega
                  refine e_Ok.run (t' := (52, [(0, (1, 0)), (1, (0, x)), (2, (0, y)), (3, (0, u)), (4, (0, v))], [(0, (-1))], w)) 1 rfl ?_
                  refine e_Ok.rets rfl rfl ?_
                  exact ⟨_, rfl, rfl⟩
          · show e_Ok 20 elay kcode eI (d + 1) 193 (36, [(0, (1, 0)), (1, (0, x)), (2, (0, y)), (3, (0, u)), (4, (0, v))], [(0, 0)], w) _
            refine e_Ok.if1 rfl (fun h28 => ?_) (fun h28 => ?_)
            · replace h28 : (0 : Int) = 0 := h28
              refine e_Ok.run (t' := (52, [(0, (1, 0)), (1, (0, x)), (2, (0, y)), (3, (0, u)), (4, (0, v))], [(0, (-1))], w)) 1 rfl ?_
              refine e_Ok.rets rfl rfl ?_
              exact ⟨_, rfl, rfl⟩
            · replace h28 : (0 : Int) ≠ 0 := by have q : ¬ ((0 : Int) = 0) := h28; omega
              exfalso; omega
        · replace h12 : (1 : Int) = 0 := by have q : ¬ ((1 : Int) ≠ 0) := h12; omega
          exfalso; omega
      · show e_Ok 20 elay kcode eI (d + 1) 193 (23, [(0, (1, 0)), (1, (0, x)), (2, (0, y)), (3, (0, u)), (4, (0, v))], [(0, 0)], w) _
        refine e_Ok.if1 rfl (fun h29 => ?_) (fun h29 => ?_)
        · replace h29 : (0 : Int) ≠ 0 := h29
          exfalso; omega
        · replace h29 : (0 : Int) = 0 := by have q : ¬ ((0 : Int) ≠ 0) := h29; omega
          refine e_Ok.run (t' := (27, [(0, (1, 0)), (1, (0, x)), (2, (0, y)), (3, (0, u)), (4, (0, v))], [(0, (-1))], w)) 1 rfl ?_
          refine e_Ok.rets rfl rfl ?_
          exact ⟨_, rfl, rfl⟩
  · show e_Ok 20 elay kcode eI (d + 1) 193 (10, [(0, (1, 0)), (1, (0, x)), (2, (0, y)), (3, (0, u)), (4, (0, v))], [(0, 0)], w) _
    refine e_Ok.if1 rfl (fun h30 => ?_) (fun h30 => ?_)
    · replace h30 : (0 : Int) = 0 := h30
      refine e_Ok.run (t' := (27, [(0, (1, 0)), (1, (0, x)), (2, (0, y)), (3, (0, u)), (4, (0, v))], [(0, (-1))], w)) 1 rfl ?_
      refine e_Ok.rets rfl rfl ?_
      exact ⟨_, rfl, rfl⟩
    · replace h30 : (0 : Int) ≠ 0 := by have q : ¬ ((0 : Int) = 0) := h30; omega
      exfalso; omega
theorem c_5_l {d : Nat} {w : eW} (hT : e_Has kTy w) {a : Int} (ga : 0 ≤ a ∧ a ≤ 3) : e_Ok 20 elay kcode eI d 5 (0, [(0, (1, 17 * a + 86))], [], w) (fun r w' => ∃ z : Int, r = [(0, z)] ∧ w = w' ∧ (-2147483648 ≤ z ∧ z ≤ 2147483647)) := by
  have hjn := kn_joints hT (a := a) (by omega)
  refine e_Ok.run (t' := (4, [(2, (0, 0)), (1, (0, 0)), (0, (1, 17 * a + 86))], [], w)) 4 rfl ?_
  have hL1 : ∀ (nn : Nat) (y1 : Int) (y2 : Int), ((-2147483648 ≤ y1 ∧ y1 ≤ 2147483647)) ∧ ((0 ≤ y2 ∧ y2 ≤ 6)) → 7 - y2 < nn → e_Ok 20 elay kcode eI d 5 (4, [(0, (1, 17 * a + 86)), (1, (0, y1)), (2, (0, y2))], [], w) (fun r w' => ∃ z : Int, r = [(0, z)] ∧ w = w' ∧ (-2147483648 ≤ z ∧ z ≤ 2147483647)) := by
    intro nn
    induction nn with
    | zero => intro y1 y2 hj hm; obtain ⟨j3, j4⟩ := hj; exfalso; omega
    | succ nn ih2 =>
      intro y1 y2 hj hm
      obtain ⟨j3, j4⟩ := hj
      refine e_Ok.run (t' := (6, [(0, (1, 17 * a + 86)), (1, (0, y1)), (2, (0, y2))], [(1, 17 * a + 86), (0, y2)], w)) 2 rfl ?_
      have h5 := (e_Has.get hT (c := 17 * a + 86) (k := 8) (lo := 0) (hi := 6) (kA_8 (a := a) (by omega) (by omega)) (by decide))
      refine e_Ok.getf (z := w (17 * a + 86) 8) rfl (lA0 (a := a) (by omega) (by omega)) rfl rfl rfl (by omega) ?_
      refine e_Ok.if2 rfl (fun h6 => ?_) (fun h6 => ?_)
      · replace h6 : (y2 : Int) ≥ w (17 * a + 86) 8 := h6
        refine e_Ok.run (t' := (58, [(0, (1, 17 * a + 86)), (1, (0, y1)), (2, (0, y2))], [(0, y1)], w)) 1 rfl ?_
        refine e_Ok.rets rfl rfl ?_
        exact ⟨_, rfl, rfl, by omega⟩
      · replace h6 : (y2 : Int) < w (17 * a + 86) 8 := by have q : ¬ ((y2 : Int) ≥ w (17 * a + 86) 8) := h6; omega
        refine e_Ok.run (t' := (14, [(0, (1, 17 * a + 86)), (1, (0, y1)), (2, (0, y2))], [(1, 17 * a + 86), (0, y1)], w)) 2 rfl ?_
        refine e_Ok.getr (z := 17 * a + 87) rfl (lA0 (a := a) (by omega) (by omega)) rfl rfl (Eq.trans (e_Has.eq hT (kA_0 (a := a) (by omega) (by omega))) (by omega)) (by omega) ?_
        refine e_Ok.run (t' := (18, [(0, (1, 17 * a + 86)), (1, (0, y1)), (2, (0, y2))], [(0, y2), (1, 17 * a + 87), (0, y1)], w)) 1 rfl ?_
        refine e_Ok.aald (z := 17 * a + y2 + 97) rfl (lA1 (a := a) (by omega) (by omega)) rfl (by omega) (Eq.trans (e_Has.eq hT (kA87 (a := a) (by omega) (by omega) (by omega))) (by omega)) (by omega) ?_
        have h7 := (e_Has.get hT (c := 17 * a + y2 + 97) (k := 3) (lo := (-2147483648)) (hi := 2147483647) (kJ_3 (a := a) (j := y2) (by omega) (by omega) (by omega)) (by decide))
        refine e_Ok.getf (z := w (17 * a + y2 + 97) 3) rfl (lJ (a := a) (j := y2) (by omega) (by omega) (by omega)) rfl rfl rfl (by omega) ?_
        refine e_Ok.run (t' := (23, [(0, (1, 17 * a + 86)), (1, (0, y1)), (2, (0, y2))], [(1, 17 * a + 86), (0, w (17 * a + y2 + 97) 3), (0, y1)], w)) 1 rfl ?_
        refine e_Ok.getr (z := 17 * a + 87) rfl (lA0 (a := a) (by omega) (by omega)) rfl rfl (Eq.trans (e_Has.eq hT (kA_0 (a := a) (by omega) (by omega))) (by omega)) (by omega) ?_
        refine e_Ok.run (t' := (27, [(0, (1, 17 * a + 86)), (1, (0, y1)), (2, (0, y2))], [(0, y2), (1, 17 * a + 87), (0, w (17 * a + y2 + 97) 3), (0, y1)], w)) 1 rfl ?_
        refine e_Ok.aald (z := 17 * a + y2 + 97) rfl (lA1 (a := a) (by omega) (by omega)) rfl (by omega) (Eq.trans (e_Has.eq hT (kA87 (a := a) (by omega) (by omega) (by omega))) (by omega)) (by omega) ?_
        have h8 := (e_Has.get hT (c := 17 * a + y2 + 97) (k := 0) (lo := (-2147483648)) (hi := 2147483647) (kJ_0 (a := a) (j := y2) (by omega) (by omega) (by omega)) (by decide))
        refine e_Ok.getf (z := w (17 * a + y2 + 97) 0) rfl (lJ (a := a) (j := y2) (by omega) (by omega) (by omega)) rfl rfl rfl (by omega) ?_
        refine e_Ok.run (t' := (32, [(0, (1, 17 * a + 86)), (1, (0, y1)), (2, (0, y2))], [(0, 1), (0, w (17 * a + y2 + 97) 0), (0, w (17 * a + y2 + 97) 3), (0, y1)], w)) 1 rfl ?_
        refine e_Ok.if2 rfl (fun h9 => ?_) (fun h9 => ?_)
        · replace h9 : (w (17 * a + y2 + 97) 0 : Int) ≠ 1 := h9
          refine e_Ok.run (t' := (48, [(0, (1, 17 * a + 86)), (1, (0, y1)), (2, (0, y2))], [(0, 0), (0, w (17 * a + y2 + 97) 3), (0, y1)], w)) 1 rfl ?_
          refine e_Ok.add (z := w (17 * a + y2 + 97) 3) rfl (by omega) (by omega) ?_
          refine e_Ok.any rfl (eF_add_any _ _) (fun z10 z10a z10b => ?_)
          refine e_Ok.run (t' := (51, [(1, (0, z10)), (0, (1, 17 * a + 86)), (2, (0, y2))], [], w)) 1 rfl ?_
          refine e_Ok.inc (z := y2 + 1) rfl rfl (by omega) (by omega) ?_
          show e_Ok 20 elay kcode eI d 5 (54, [(2, (0, y2 + 1)), (1, (0, z10)), (0, (1, 17 * a + 86))], [], w) _
          refine e_Ok.run (t' := (4, [(2, (0, y2 + 1)), (1, (0, z10)), (0, (1, 17 * a + 86))], [], w)) 1 rfl ?_
          refine e_Ok.sub kAlk (e_sub_of rfl ?_) (ih2 z10 (y2 + 1) ⟨(by omega), (by omega)⟩ (by omega))
          exact ⟨rfl, rfl, rfl, trivial⟩
        · replace h9 : (w (17 * a + y2 + 97) 0 : Int) = 1 := by have q : ¬ ((w (17 * a + y2 + 97) 0 : Int) ≠ 1) := h9; omega
          refine e_Ok.run (t' := (36, [(0, (1, 17 * a + 86)), (1, (0, y1)), (2, (0, y2))], [(1, 17 * a + 86), (0, w (17 * a + y2 + 97) 3), (0, y1)], w)) 1 rfl ?_
          refine e_Ok.getr (z := 17 * a + 87) rfl (lA0 (a := a) (by omega) (by omega)) rfl rfl (Eq.trans (e_Has.eq hT (kA_0 (a := a) (by omega) (by omega))) (by omega)) (by omega) ?_
          refine e_Ok.run (t' := (40, [(0, (1, 17 * a + 86)), (1, (0, y1)), (2, (0, y2))], [(0, y2), (1, 17 * a + 87), (0, w (17 * a + y2 + 97) 3), (0, y1)], w)) 1 rfl ?_
          refine e_Ok.aald (z := 17 * a + y2 + 97) rfl (lA1 (a := a) (by omega) (by omega)) rfl (by omega) (Eq.trans (e_Has.eq hT (kA87 (a := a) (by omega) (by omega) (by omega))) (by omega)) (by omega) ?_
          have h11 := (e_Has.get hT (c := 17 * a + y2 + 97) (k := 2) (lo := (-2147483648)) (hi := 2147483647) (kJ_2 (a := a) (j := y2) (by omega) (by omega) (by omega)) (by decide))
          refine e_Ok.getf (z := w (17 * a + y2 + 97) 2) rfl (lJ (a := a) (j := y2) (by omega) (by omega) (by omega)) rfl rfl rfl (by omega) ?_
          refine e_Ok.run (t' := (48, [(0, (1, 17 * a + 86)), (1, (0, y1)), (2, (0, y2))], [(0, w (17 * a + y2 + 97) 2), (0, w (17 * a + y2 + 97) 3), (0, y1)], w)) 1 rfl ?_
          refine e_Ok.any rfl (eF_add_any _ _) (fun z12 z12a z12b => ?_)
          refine e_Ok.any rfl (eF_add_any _ _) (fun z13 z13a z13b => ?_)
          refine e_Ok.run (t' := (51, [(1, (0, z13)), (0, (1, 17 * a + 86)), (2, (0, y2))], [], w)) 1 rfl ?_
          refine e_Ok.inc (z := y2 + 1) rfl rfl (by omega) (by omega) ?_
          show e_Ok 20 elay kcode eI d 5 (54, [(2, (0, y2 + 1)), (1, (0, z13)), (0, (1, 17 * a + 86))], [], w) _
          refine e_Ok.run (t' := (4, [(2, (0, y2 + 1)), (1, (0, z13)), (0, (1, 17 * a + 86))], [], w)) 1 rfl ?_
          refine e_Ok.sub kAlk (e_sub_of rfl ?_) (ih2 z13 (y2 + 1) ⟨(by omega), (by omega)⟩ (by omega))
          exact ⟨rfl, rfl, rfl, trivial⟩
  refine e_Ok.sub kAlk (e_sub_of rfl ?_) (hL1 (7 + 1 : Int).toNat 0 0 ⟨(by omega), (by omega)⟩ (by omega))
  exact ⟨rfl, rfl, rfl, trivial⟩
set_option maxHeartbeats 4000000 in
theorem c_194 {d : Nat} (hd : 28 ≤ d) {w : eW} (hT : e_Has kTy w) (hO : 0 ≤ w 0 13 ∧ w 0 13 ≤ 1) (ka : ∀ a, 0 ≤ a → a ≤ 3 → aK w a) {a : Int} (g_a : (-2147483648) ≤ a ∧ a ≤ 2147483647) {kd : Int} (g_kd : (-2147483648) ≤ kd ∧ kd ≤ 2147483647) {lo : Int} (g_lo : (-2147483648) ≤ lo ∧ lo ≤ 2147483647) {hi : Int} (g_hi : (-2147483648) ≤ hi ∧ hi ≤ 2147483647) {ln : Int} (g_ln : (-2147483648) ≤ ln ∧ ln ≤ 2147483647) : e_Ok 20 elay kcode eI d 194 (0, [(0, (1, 0)), (1, (0, a)), (2, (0, kd)), (3, (0, lo)), (4, (0, hi)), (5, (0, ln))], [], w) (fun r w' => ∃ z : Int, r = [(0, z)] ∧ e_Has kTy w' ∧ (w' = w ∨ (w 0 13 = 0 ∧ e_fr (kAj a) w w' ∧ ((0 ≤ a ∧ a < w 0 11) ∧ w (17 * a + 86) 8 ≤ 5) ∧ w' (17 * a + 86) 8 = w (17 * a + 86) 8 + 1 ∧ jC w' (17 * a + w (17 * a + 86) 8 + 97) ∧ (∀ j k, 0 ≤ j → j ≤ 5 → j ≠ w (17 * a + 86) 8 → w' (17 * a + j + 97) k = w (17 * a + j + 97) k) ∧ aK w' a))) := by
  obtain ⟨d, rfl⟩ : ∃ e, d = e + 1 := ⟨d - 1, by omega⟩
  have hw0 := e_Has.get hT (c := 0) (k := 11) (lo := 0) (hi := 4) rfl (by decide)
  refine e_Ok.run (t' := (2, [(0, (1, 0)), (1, (0, a)), (2, (0, kd)), (3, (0, lo)), (4, (0, hi)), (5, (0, ln))], [(0, a), (1, 0)], w)) 2 rfl ?_
  refine e_Ok.callV rfl (by omega) rfl rfl rfl rfl (c_246 (by omega) hT (by omega)) (fun r1 w2 h3 => ?_)
  obtain ⟨z4, rfl, rfl, q5⟩ := h3
  obtain ⟨rfl, q5⟩ | ⟨rfl, q5⟩ := q5
  · show e_Ok 20 elay kcode eI (d + 1) 194 (5, [(0, (1, 0)), (1, (0, a)), (2, (0, kd)), (3, (0, lo)), (4, (0, hi)), (5, (0, ln))], [(0, 1)], w) _
    refine e_Ok.if1 rfl (fun h6 => ?_) (fun h6 => ?_)
    · replace h6 : (1 : Int) = 0 := h6
      exfalso; omega
    · replace h6 : (1 : Int) ≠ 0 := by have q : ¬ ((1 : Int) = 0) := h6; omega
      refine e_Ok.run (t' := (11, [(0, (1, 0)), (1, (0, a)), (2, (0, kd)), (3, (0, lo)), (4, (0, hi)), (5, (0, ln))], [(0, 1), (0, 0), (0, kd)], w)) 3 rfl ?_
      refine e_Ok.callS rfl (by omega) rfl rfl (c_242 (by omega) (by omega) (by omega)) (fun r7 w8 h9 => ?_)
      obtain ⟨z10, rfl, rfl, q11⟩ := h9
      obtain ⟨rfl, q11⟩ | ⟨rfl, q11⟩ := q11
      · show e_Ok 20 elay kcode eI (d + 1) 194 (14, [(0, (1, 0)), (1, (0, a)), (2, (0, kd)), (3, (0, lo)), (4, (0, hi)), (5, (0, ln))], [(0, 1)], w) _
        refine e_Ok.if1 rfl (fun h12 => ?_) (fun h12 => ?_)
        · replace h12 : (1 : Int) ≠ 0 := h12
          refine e_Ok.run (t' := (20, [(0, (1, 0)), (1, (0, a)), (2, (0, kd)), (3, (0, lo)), (4, (0, hi)), (5, (0, ln))], [(0, kd)], w)) 1 rfl ?_
          refine e_Ok.if1 rfl (fun h13 => ?_) (fun h13 => ?_)
          · replace h13 : (kd : Int) ≠ 0 := h13
            refine e_Ok.run (t' := (36, [(6, (0, 8000)), (0, (1, 0)), (1, (0, a)), (2, (0, kd)), (3, (0, lo)), (4, (0, hi)), (5, (0, ln))], [(0, 8000), (0, lo)], w)) 4 rfl ?_
            refine e_Ok.neg (z := (-8000)) rfl (by omega) (by omega) ?_
            refine e_Ok.run (t' := (38, [(6, (0, 8000)), (0, (1, 0)), (1, (0, a)), (2, (0, kd)), (3, (0, lo)), (4, (0, hi)), (5, (0, ln))], [(0, 0), (0, (-8000)), (0, lo)], w)) 1 rfl ?_
            refine e_Ok.callS rfl (by omega) rfl rfl (c_242 (by omega) (by omega) (by omega)) (fun r14 w15 h16 => ?_)
            obtain ⟨z17, rfl, rfl, q18⟩ := h16
            obtain ⟨rfl, q18⟩ | ⟨rfl, q18⟩ := q18
            · show e_Ok 20 elay kcode eI (d + 1) 194 (41, [(6, (0, 8000)), (0, (1, 0)), (1, (0, a)), (2, (0, kd)), (3, (0, lo)), (4, (0, hi)), (5, (0, ln))], [(0, 1)], w) _
              refine e_Ok.if1 rfl (fun h19 => ?_) (fun h19 => ?_)
              · replace h19 : (1 : Int) = 0 := h19
                exfalso; omega
              · replace h19 : (1 : Int) ≠ 0 := by have q : ¬ ((1 : Int) = 0) := h19; omega
                refine e_Ok.run (t' := (49, [(6, (0, 8000)), (0, (1, 0)), (1, (0, a)), (2, (0, kd)), (3, (0, lo)), (4, (0, hi)), (5, (0, ln))], [(0, 8000), (0, 0), (0, hi)], w)) 3 rfl ?_
                refine e_Ok.callS rfl (by omega) rfl rfl (c_242 (by omega) (by omega) (by omega)) (fun r20 w21 h22 => ?_)
                obtain ⟨z23, rfl, rfl, q24⟩ := h22
                obtain ⟨rfl, q24⟩ | ⟨rfl, q24⟩ := q24
                · show e_Ok 20 elay kcode eI (d + 1) 194 (52, [(6, (0, 8000)), (0, (1, 0)), (1, (0, a)), (2, (0, kd)), (3, (0, lo)), (4, (0, hi)), (5, (0, ln))], [(0, 1)], w) _
                  refine e_Ok.if1 rfl (fun h25 => ?_) (fun h25 => ?_)
                  · replace h25 : (1 : Int) ≠ 0 := h25
                    refine e_Ok.run (t' := (63, [(6, (0, 8000)), (0, (1, 0)), (1, (0, a)), (2, (0, kd)), (3, (0, lo)), (4, (0, hi)), (5, (0, ln))], [(0, 8000), (0, 0), (0, ln)], w)) 3 rfl ?_
                    refine e_Ok.callS rfl (by omega) rfl rfl (c_242 (by omega) (by omega) (by omega)) (fun r26 w27 h28 => ?_)
                    obtain ⟨z29, rfl, rfl, q30⟩ := h28
                    obtain ⟨rfl, q30⟩ | ⟨rfl, q30⟩ := q30
                    · show e_Ok 20 elay kcode eI (d + 1) 194 (66, [(6, (0, 8000)), (0, (1, 0)), (1, (0, a)), (2, (0, kd)), (3, (0, lo)), (4, (0, hi)), (5, (0, ln))], [(0, 1)], w) _
                      refine e_Ok.if1 rfl (fun h31 => ?_) (fun h31 => ?_)
                      · replace h31 : (1 : Int) ≠ 0 := h31
                        refine e_Ok.run (t' := (73, [(6, (0, 8000)), (0, (1, 0)), (1, (0, a)), (2, (0, kd)), (3, (0, lo)), (4, (0, hi)), (5, (0, ln))], [(0, 1), (0, kd)], w)) 2 rfl ?_
                        refine e_Ok.if2 rfl (fun h32 => ?_) (fun h32 => ?_)
                        · replace h32 : (kd : Int) ≠ 1 := h32
                          exfalso; omega
                        · replace h32 : (kd : Int) = 1 := by have q : ¬ ((kd : Int) ≠ 1) := h32; omega
                          refine e_Ok.run (t' := (79, [(6, (0, 8000)), (0, (1, 0)), (1, (0, a)), (2, (0, kd)), (3, (0, lo)), (4, (0, hi)), (5, (0, ln))], [(0, lo), (0, ln)], w)) 2 rfl ?_
                          refine e_Ok.add (z := ln + lo) rfl (by omega) (by omega) ?_
                          refine e_Ok.if1 rfl (fun h33 => ?_) (fun h33 => ?_)
                          · replace h33 : (ln + lo : Int) ≥ 0 := h33
                            refine e_Ok.run (t' := (87, [(6, (0, 8000)), (0, (1, 0)), (1, (0, a)), (2, (0, kd)), (3, (0, lo)), (4, (0, hi)), (5, (0, ln))], [(0, 1), (0, kd)], w)) 2 rfl ?_
                            refine e_Ok.if2 rfl (fun h34 => ?_) (fun h34 => ?_)
                            · replace h34 : (kd : Int) ≠ 1 := h34
                              exfalso; omega
                            · replace h34 : (kd : Int) = 1 := by have q : ¬ ((kd : Int) ≠ 1) := h34; omega
                              refine e_Ok.run (t' := (94, [(6, (0, 8000)), (0, (1, 0)), (1, (0, a)), (2, (0, kd)), (3, (0, lo)), (4, (0, hi)), (5, (0, ln))], [(0, hi), (0, ln)], w)) 2 rfl ?_
                              refine e_Ok.add (z := ln + hi) rfl (by omega) (by omega) ?_
                              refine e_Ok.run (t' := (103, [(7, (0, ln + hi)), (6, (0, 8000)), (0, (1, 0)), (1, (0, a)), (2, (0, kd)), (3, (0, lo)), (4, (0, hi)), (5, (0, ln))], [(1, 0)], w)) 3 rfl ?_
                              refine e_Ok.getr (z := 9) rfl (el_o rfl) rfl rfl (Eq.trans (e_Has.eq hT rfl) (by omega)) (by omega) ?_
                              refine e_Ok.run (t' := (107, [(7, (0, ln + hi)), (6, (0, 8000)), (0, (1, 0)), (1, (0, a)), (2, (0, kd)), (3, (0, lo)), (4, (0, hi)), (5, (0, ln))], [(0, a), (1, 9)], w)) 1 rfl ?_
                              refine e_Ok.aald (z := 17 * a + 86) rfl (el_o rfl) rfl (by omega) (Eq.trans (e_Has.eq hT (k9 (by omega))) (by omega)) (by omega) ?_
                              refine e_Ok.callV rfl (by omega) rfl (lA0 (a := a) (by omega) (by omega)) rfl rfl (c_5_l (a := a) hT (by omega)) (fun r35 w36 h37 => ?_)
                              obtain ⟨z38, rfl, rfl, q40⟩ := h37
                              show e_Ok 20 elay kcode eI (d + 1) 194 (111, [(7, (0, ln + hi)), (6, (0, 8000)), (0, (1, 0)), (1, (0, a)), (2, (0, kd)), (3, (0, lo)), (4, (0, hi)), (5, (0, ln))], [(0, z38)], w) _
                              refine e_Ok.run (t' := (113, [(7, (0, ln + hi)), (6, (0, 8000)), (0, (1, 0)), (1, (0, a)), (2, (0, kd)), (3, (0, lo)), (4, (0, hi)), (5, (0, ln))], [(0, ln + hi), (0, z38)], w)) 1 rfl ?_
                              refine e_Ok.any rfl (eF_add_any _ _) (fun z41 z41a z41b => ?_)
                              refine e_Ok.run (t' := (117, [(7, (0, ln + hi)), (6, (0, 8000)), (0, (1, 0)), (1, (0, a)), (2, (0, kd)), (3, (0, lo)), (4, (0, hi)), (5, (0, ln))], [(0, 8000), (0, z41)], w)) 1 rfl ?_
                              refine e_Ok.if2 rfl (fun h42 => ?_) (fun h42 => ?_)
                              · replace h42 : (z41 : Int) ≤ 8000 := h42
                                refine e_Ok.run (t' := (123, [(7, (0, ln + hi)), (6, (0, 8000)), (0, (1, 0)), (1, (0, a)), (2, (0, kd)), (3, (0, lo)), (4, (0, hi)), (5, (0, ln))], [(1, 0)], w)) 1 rfl ?_
                                refine e_Ok.getf (z := w 0 13) rfl (el_o rfl) rfl rfl rfl (by omega) ?_
                                refine e_Ok.if1 rfl (fun h43 => ?_) (fun h43 => ?_)
                                · replace h43 : (w 0 13 : Int) = 0 := h43
                                  refine e_Ok.run (t' := (133, [(7, (0, ln + hi)), (6, (0, 8000)), (0, (1, 0)), (1, (0, a)), (2, (0, kd)), (3, (0, lo)), (4, (0, hi)), (5, (0, ln))], [(1, 0)], w)) 1 rfl ?_
                                  refine e_Ok.getr (z := 9) rfl (el_o rfl) rfl rfl (Eq.trans (e_Has.eq hT rfl) (by omega)) (by omega) ?_
                                  refine e_Ok.run (t' := (137, [(7, (0, ln + hi)), (6, (0, 8000)), (0, (1, 0)), (1, (0, a)), (2, (0, kd)), (3, (0, lo)), (4, (0, hi)), (5, (0, ln))], [(0, a), (1, 9)], w)) 1 rfl ?_
                                  refine e_Ok.aald (z := 17 * a + 86) rfl (el_o rfl) rfl (by omega) (Eq.trans (e_Has.eq hT (k9 (by omega))) (by omega)) (by omega) ?_
                                  have h44 := (e_Has.get hT (c := 17 * a + 86) (k := 8) (lo := 0) (hi := 6) (kA_8 (a := a) (by omega) (by omega)) (by decide))
                                  refine e_Ok.getf (z := w (17 * a + 86) 8) rfl (lA0 (a := a) (by omega) (by omega)) rfl rfl rfl (by omega) ?_
                                  refine e_Ok.run (t' := (143, [(7, (0, ln + hi)), (6, (0, 8000)), (0, (1, 0)), (1, (0, a)), (2, (0, kd)), (3, (0, lo)), (4, (0, hi)), (5, (0, ln))], [(0, 6), (0, w (17 * a + 86) 8)], w)) 1 rfl ?_
                                  refine e_Ok.if2 rfl (fun h45 => ?_) (fun h45 => ?_)
                                  · replace h45 : (w (17 * a + 86) 8 : Int) < 6 := h45
                                    refine e_Ok.run (t' := (150, [(7, (0, ln + hi)), (6, (0, 8000)), (0, (1, 0)), (1, (0, a)), (2, (0, kd)), (3, (0, lo)), (4, (0, hi)), (5, (0, ln))], [(1, 0)], w)) 1 rfl ?_
                                    refine e_Ok.getr (z := 9) rfl (el_o rfl) rfl rfl (Eq.trans (e_Has.eq hT rfl) (by omega)) (by omega) ?_
                                    refine e_Ok.run (t' := (154, [(7, (0, ln + hi)), (6, (0, 8000)), (0, (1, 0)), (1, (0, a)), (2, (0, kd)), (3, (0, lo)), (4, (0, hi)), (5, (0, ln))], [(0, a), (1, 9)], w)) 1 rfl ?_
                                    refine e_Ok.aald (z := 17 * a + 86) rfl (el_o rfl) rfl (by omega) (Eq.trans (e_Has.eq hT (k9 (by omega))) (by omega)) (by omega) ?_
                                    refine e_Ok.run (t' := (161, [(7, (0, ln + hi)), (6, (0, 8000)), (0, (1, 0)), (1, (0, a)), (2, (0, kd)), (3, (0, lo)), (4, (0, hi)), (5, (0, ln))], [(0, ln), (0, hi), (0, lo), (0, kd), (1, 17 * a + 86)], w)) 4 rfl ?_
                                    have hjn := kn_joints hT (a := a) (by omega)
                                    refine e_Ok.callV rfl (by omega) rfl (lA0 (a := a) (by omega) (by omega)) rfl rfl (c_2 (by omega) (a := a) (n := w (17 * a + 86) 8) hT (by omega) rfl (by omega) (ka a (by omega) (by omega)) (by omega) (by omega) (by omega) (by omega)) (fun r46 w47 h48 => ?_)
                                    obtain ⟨z49, rfl, jf, jT, jz, ⟨j0, j1, j2, j3, j4, j5, j6⟩, j8, jo, jk, -⟩ := h48
                                    have f50 : e_fr (kAj a) w w47 := e_fr.trans (e_fr.refl w) (e_fr.mono jf (fun c k q => by exact q))
                                    show e_Ok 20 elay kcode eI (d + 1) 194 (164, [(7, (0, ln + hi)), (6, (0, 8000)), (0, (1, 0)), (1, (0, a)), (2, (0, kd)), (3, (0, lo)), (4, (0, hi)), (5, (0, ln))], [(0, z49)], w47) _
                                    refine e_Ok.rets rfl rfl ?_
                                    exact ⟨_, rfl, jT, Or.inr ⟨by omega, f50, by omega, j8, (by unfold jC; rw [j1, j2, j5, j6]; omega), jo, jk⟩⟩
                                  · replace h45 : (w (17 * a + 86) 8 : Int) ≥ 6 := by have q : ¬ ((w (17 * a + 86) 8 : Int) < 6) := h45; omega
                                    refine e_Ok.run (t' := (148, [(7, (0, ln + hi)), (6, (0, 8000)), (0, (1, 0)), (1, (0, a)), (2, (0, kd)), (3, (0, lo)), (4, (0, hi)), (5, (0, ln))], [(0, (-3))], w)) 1 rfl ?_
                                    refine e_Ok.rets rfl rfl ?_
                                    exact ⟨_, rfl, hT, Or.inl rfl⟩
                                · replace h43 : (w 0 13 : Int) ≠ 0 := by have q : ¬ ((w 0 13 : Int) = 0) := h43; omega
                                  refine e_Ok.run (t' := (131, [(7, (0, ln + hi)), (6, (0, 8000)), (0, (1, 0)), (1, (0, a)), (2, (0, kd)), (3, (0, lo)), (4, (0, hi)), (5, (0, ln))], [(0, (-2))], w)) 1 rfl ?_
                                  refine e_Ok.rets rfl rfl ?_
                                  exact ⟨_, rfl, hT, Or.inl rfl⟩
                              · replace h42 : (z41 : Int) > 8000 := by have q : ¬ ((z41 : Int) ≤ 8000) := h42; omega
                                refine e_Ok.run (t' := (121, [(7, (0, ln + hi)), (6, (0, 8000)), (0, (1, 0)), (1, (0, a)), (2, (0, kd)), (3, (0, lo)), (4, (0, hi)), (5, (0, ln))], [(0, (-1))], w)) 1 rfl ?_
                                refine e_Ok.rets rfl rfl ?_
                                exact ⟨_, rfl, hT, Or.inl rfl⟩
                          · replace h33 : (ln + lo : Int) < 0 := by have q : ¬ ((ln + lo : Int) ≥ 0) := h33; omega
                            refine e_Ok.run (t' := (84, [(6, (0, 8000)), (0, (1, 0)), (1, (0, a)), (2, (0, kd)), (3, (0, lo)), (4, (0, hi)), (5, (0, ln))], [(0, (-1))], w)) 1 rfl ?_
                            refine e_Ok.rets rfl rfl ?_
                            exact ⟨_, rfl, hT, Or.inl rfl⟩
                      · replace h31 : (1 : Int) = 0 := by have q : ¬ ((1 : Int) ≠ 0) := h31; omega
                        exfalso; omega
                    · show e_Ok 20 elay kcode eI (d + 1) 194 (66, [(6, (0, 8000)), (0, (1, 0)), (1, (0, a)), (2, (0, kd)), (3, (0, lo)), (4, (0, hi)), (5, (0, ln))], [(0, 0)], w) _
                      refine e_Ok.if1 rfl (fun h51 => ?_) (fun h51 => ?_)
                      · replace h51 : (0 : Int) ≠ 0 := h51
                        exfalso; omega
                      · replace h51 : (0 : Int) = 0 := by have q : ¬ ((0 : Int) ≠ 0) := h51; omega
                        refine e_Ok.run (t' := (70, [(6, (0, 8000)), (0, (1, 0)), (1, (0, a)), (2, (0, kd)), (3, (0, lo)), (4, (0, hi)), (5, (0, ln))], [(0, (-1))], w)) 1 rfl ?_
                        refine e_Ok.rets rfl rfl ?_
                        exact ⟨_, rfl, hT, Or.inl rfl⟩
                  · replace h25 : (1 : Int) = 0 := by have q : ¬ ((1 : Int) ≠ 0) := h25; omega
                    exfalso; omega
                · show e_Ok 20 elay kcode eI (d + 1) 194 (52, [(6, (0, 8000)), (0, (1, 0)), (1, (0, a)), (2, (0, kd)), (3, (0, lo)), (4, (0, hi)), (5, (0, ln))], [(0, 0)], w) _
                  refine e_Ok.if1 rfl (fun h52 => ?_) (fun h52 => ?_)
                  · replace h52 : (0 : Int) ≠ 0 := h52
                    exfalso; omega
                  · replace h52 : (0 : Int) = 0 := by have q : ¬ ((0 : Int) ≠ 0) := h52; omega
                    refine e_Ok.run (t' := (56, [(6, (0, 8000)), (0, (1, 0)), (1, (0, a)), (2, (0, kd)), (3, (0, lo)), (4, (0, hi)), (5, (0, ln))], [(0, (-1))], w)) 1 rfl ?_
                    refine e_Ok.rets rfl rfl ?_
                    exact ⟨_, rfl, hT, Or.inl rfl⟩
            · show e_Ok 20 elay kcode eI (d + 1) 194 (41, [(6, (0, 8000)), (0, (1, 0)), (1, (0, a)), (2, (0, kd)), (3, (0, lo)), (4, (0, hi)), (5, (0, ln))], [(0, 0)], w) _
              refine e_Ok.if1 rfl (fun h53 => ?_) (fun h53 => ?_)
              · replace h53 : (0 : Int) = 0 := h53
                refine e_Ok.run (t' := (56, [(6, (0, 8000)), (0, (1, 0)), (1, (0, a)), (2, (0, kd)), (3, (0, lo)), (4, (0, hi)), (5, (0, ln))], [(0, (-1))], w)) 1 rfl ?_
                refine e_Ok.rets rfl rfl ?_
                exact ⟨_, rfl, hT, Or.inl rfl⟩
              · replace h53 : (0 : Int) ≠ 0 := by have q : ¬ ((0 : Int) = 0) := h53; omega
                exfalso; omega
          · replace h13 : (kd : Int) = 0 := by have q : ¬ ((kd : Int) ≠ 0) := h13; omega
            refine e_Ok.run (t' := (36, [(6, (0, 100000)), (0, (1, 0)), (1, (0, a)), (2, (0, kd)), (3, (0, lo)), (4, (0, hi)), (5, (0, ln))], [(0, 100000), (0, lo)], w)) 5 rfl ?_
            refine e_Ok.neg (z := (-100000)) rfl (by omega) (by omega) ?_
            refine e_Ok.run (t' := (38, [(6, (0, 100000)), (0, (1, 0)), (1, (0, a)), (2, (0, kd)), (3, (0, lo)), (4, (0, hi)), (5, (0, ln))], [(0, 0), (0, (-100000)), (0, lo)], w)) 1 rfl ?_
            refine e_Ok.callS rfl (by omega) rfl rfl (c_242 (by omega) (by omega) (by omega)) (fun r54 w55 h56 => ?_)
            obtain ⟨z57, rfl, rfl, q58⟩ := h56
            obtain ⟨rfl, q58⟩ | ⟨rfl, q58⟩ := q58
            · show e_Ok 20 elay kcode eI (d + 1) 194 (41, [(6, (0, 100000)), (0, (1, 0)), (1, (0, a)), (2, (0, kd)), (3, (0, lo)), (4, (0, hi)), (5, (0, ln))], [(0, 1)], w) _
              refine e_Ok.if1 rfl (fun h59 => ?_) (fun h59 => ?_)
              · replace h59 : (1 : Int) = 0 := h59
                exfalso; omega
              · replace h59 : (1 : Int) ≠ 0 := by have q : ¬ ((1 : Int) = 0) := h59; omega
                refine e_Ok.run (t' := (49, [(6, (0, 100000)), (0, (1, 0)), (1, (0, a)), (2, (0, kd)), (3, (0, lo)), (4, (0, hi)), (5, (0, ln))], [(0, 100000), (0, 0), (0, hi)], w)) 3 rfl ?_
                refine e_Ok.callS rfl (by omega) rfl rfl (c_242 (by omega) (by omega) (by omega)) (fun r60 w61 h62 => ?_)
                obtain ⟨z63, rfl, rfl, q64⟩ := h62
                obtain ⟨rfl, q64⟩ | ⟨rfl, q64⟩ := q64
                · show e_Ok 20 elay kcode eI (d + 1) 194 (52, [(6, (0, 100000)), (0, (1, 0)), (1, (0, a)), (2, (0, kd)), (3, (0, lo)), (4, (0, hi)), (5, (0, ln))], [(0, 1)], w) _
                  refine e_Ok.if1 rfl (fun h65 => ?_) (fun h65 => ?_)
                  · replace h65 : (1 : Int) ≠ 0 := h65
                    refine e_Ok.run (t' := (63, [(6, (0, 100000)), (0, (1, 0)), (1, (0, a)), (2, (0, kd)), (3, (0, lo)), (4, (0, hi)), (5, (0, ln))], [(0, 8000), (0, 0), (0, ln)], w)) 3 rfl ?_
                    refine e_Ok.callS rfl (by omega) rfl rfl (c_242 (by omega) (by omega) (by omega)) (fun r66 w67 h68 => ?_)
                    obtain ⟨z69, rfl, rfl, q70⟩ := h68
                    obtain ⟨rfl, q70⟩ | ⟨rfl, q70⟩ := q70
                    · show e_Ok 20 elay kcode eI (d + 1) 194 (66, [(6, (0, 100000)), (0, (1, 0)), (1, (0, a)), (2, (0, kd)), (3, (0, lo)), (4, (0, hi)), (5, (0, ln))], [(0, 1)], w) _
                      refine e_Ok.if1 rfl (fun h71 => ?_) (fun h71 => ?_)
                      · replace h71 : (1 : Int) ≠ 0 := h71
                        refine e_Ok.run (t' := (73, [(6, (0, 100000)), (0, (1, 0)), (1, (0, a)), (2, (0, kd)), (3, (0, lo)), (4, (0, hi)), (5, (0, ln))], [(0, 1), (0, kd)], w)) 2 rfl ?_
                        refine e_Ok.if2 rfl (fun h72 => ?_) (fun h72 => ?_)
                        · replace h72 : (kd : Int) ≠ 1 := h72
                          refine e_Ok.run (t' := (87, [(6, (0, 100000)), (0, (1, 0)), (1, (0, a)), (2, (0, kd)), (3, (0, lo)), (4, (0, hi)), (5, (0, ln))], [(0, 1), (0, kd)], w)) 2 rfl ?_
                          refine e_Ok.if2 rfl (fun h73 => ?_) (fun h73 => ?_)
                          · replace h73 : (kd : Int) ≠ 1 := h73
                            refine e_Ok.run (t' := (103, [(7, (0, ln)), (6, (0, 100000)), (0, (1, 0)), (1, (0, a)), (2, (0, kd)), (3, (0, lo)), (4, (0, hi)), (5, (0, ln))], [(1, 0)], w)) 3 rfl ?_
                            refine e_Ok.getr (z := 9) rfl (el_o rfl) rfl rfl (Eq.trans (e_Has.eq hT rfl) (by omega)) (by omega) ?_
                            refine e_Ok.run (t' := (107, [(7, (0, ln)), (6, (0, 100000)), (0, (1, 0)), (1, (0, a)), (2, (0, kd)), (3, (0, lo)), (4, (0, hi)), (5, (0, ln))], [(0, a), (1, 9)], w)) 1 rfl ?_
                            refine e_Ok.aald (z := 17 * a + 86) rfl (el_o rfl) rfl (by omega) (Eq.trans (e_Has.eq hT (k9 (by omega))) (by omega)) (by omega) ?_
                            refine e_Ok.callV rfl (by omega) rfl (lA0 (a := a) (by omega) (by omega)) rfl rfl (c_5_l (a := a) hT (by omega)) (fun r74 w75 h76 => ?_)
                            obtain ⟨z77, rfl, rfl, q78⟩ := h76
                            show e_Ok 20 elay kcode eI (d + 1) 194 (111, [(7, (0, ln)), (6, (0, 100000)), (0, (1, 0)), (1, (0, a)), (2, (0, kd)), (3, (0, lo)), (4, (0, hi)), (5, (0, ln))], [(0, z77)], w) _
                            refine e_Ok.run (t' := (113, [(7, (0, ln)), (6, (0, 100000)), (0, (1, 0)), (1, (0, a)), (2, (0, kd)), (3, (0, lo)), (4, (0, hi)), (5, (0, ln))], [(0, ln), (0, z77)], w)) 1 rfl ?_
                            refine e_Ok.any rfl (eF_add_any _ _) (fun z79 z79a z79b => ?_)
                            refine e_Ok.run (t' := (117, [(7, (0, ln)), (6, (0, 100000)), (0, (1, 0)), (1, (0, a)), (2, (0, kd)), (3, (0, lo)), (4, (0, hi)), (5, (0, ln))], [(0, 8000), (0, z79)], w)) 1 rfl ?_
                            refine e_Ok.if2 rfl (fun h80 => ?_) (fun h80 => ?_)
                            · replace h80 : (z79 : Int) ≤ 8000 := h80
                              refine e_Ok.run (t' := (123, [(7, (0, ln)), (6, (0, 100000)), (0, (1, 0)), (1, (0, a)), (2, (0, kd)), (3, (0, lo)), (4, (0, hi)), (5, (0, ln))], [(1, 0)], w)) 1 rfl ?_
                              refine e_Ok.getf (z := w 0 13) rfl (el_o rfl) rfl rfl rfl (by omega) ?_
                              refine e_Ok.if1 rfl (fun h81 => ?_) (fun h81 => ?_)
                              · replace h81 : (w 0 13 : Int) = 0 := h81
                                refine e_Ok.run (t' := (133, [(7, (0, ln)), (6, (0, 100000)), (0, (1, 0)), (1, (0, a)), (2, (0, kd)), (3, (0, lo)), (4, (0, hi)), (5, (0, ln))], [(1, 0)], w)) 1 rfl ?_
                                refine e_Ok.getr (z := 9) rfl (el_o rfl) rfl rfl (Eq.trans (e_Has.eq hT rfl) (by omega)) (by omega) ?_
                                refine e_Ok.run (t' := (137, [(7, (0, ln)), (6, (0, 100000)), (0, (1, 0)), (1, (0, a)), (2, (0, kd)), (3, (0, lo)), (4, (0, hi)), (5, (0, ln))], [(0, a), (1, 9)], w)) 1 rfl ?_
                                refine e_Ok.aald (z := 17 * a + 86) rfl (el_o rfl) rfl (by omega) (Eq.trans (e_Has.eq hT (k9 (by omega))) (by omega)) (by omega) ?_
                                have h82 := (e_Has.get hT (c := 17 * a + 86) (k := 8) (lo := 0) (hi := 6) (kA_8 (a := a) (by omega) (by omega)) (by decide))
                                refine e_Ok.getf (z := w (17 * a + 86) 8) rfl (lA0 (a := a) (by omega) (by omega)) rfl rfl rfl (by omega) ?_
                                refine e_Ok.run (t' := (143, [(7, (0, ln)), (6, (0, 100000)), (0, (1, 0)), (1, (0, a)), (2, (0, kd)), (3, (0, lo)), (4, (0, hi)), (5, (0, ln))], [(0, 6), (0, w (17 * a + 86) 8)], w)) 1 rfl ?_
                                refine e_Ok.if2 rfl (fun h83 => ?_) (fun h83 => ?_)
                                · replace h83 : (w (17 * a + 86) 8 : Int) < 6 := h83
                                  refine e_Ok.run (t' := (150, [(7, (0, ln)), (6, (0, 100000)), (0, (1, 0)), (1, (0, a)), (2, (0, kd)), (3, (0, lo)), (4, (0, hi)), (5, (0, ln))], [(1, 0)], w)) 1 rfl ?_
                                  refine e_Ok.getr (z := 9) rfl (el_o rfl) rfl rfl (Eq.trans (e_Has.eq hT rfl) (by omega)) (by omega) ?_
                                  refine e_Ok.run (t' := (154, [(7, (0, ln)), (6, (0, 100000)), (0, (1, 0)), (1, (0, a)), (2, (0, kd)), (3, (0, lo)), (4, (0, hi)), (5, (0, ln))], [(0, a), (1, 9)], w)) 1 rfl ?_
                                  refine e_Ok.aald (z := 17 * a + 86) rfl (el_o rfl) rfl (by omega) (Eq.trans (e_Has.eq hT (k9 (by omega))) (by omega)) (by omega) ?_
                                  refine e_Ok.run (t' := (161, [(7, (0, ln)), (6, (0, 100000)), (0, (1, 0)), (1, (0, a)), (2, (0, kd)), (3, (0, lo)), (4, (0, hi)), (5, (0, ln))], [(0, ln), (0, hi), (0, lo), (0, kd), (1, 17 * a + 86)], w)) 4 rfl ?_
                                  have hjn := kn_joints hT (a := a) (by omega)
                                  refine e_Ok.callV rfl (by omega) rfl (lA0 (a := a) (by omega) (by omega)) rfl rfl (c_2 (by omega) (a := a) (n := w (17 * a + 86) 8) hT (by omega) rfl (by omega) (ka a (by omega) (by omega)) (by omega) (by omega) (by omega) (by omega)) (fun r84 w85 h86 => ?_)
                                  obtain ⟨z87, rfl, jf, jT, jz, ⟨j0, j1, j2, j3, j4, j5, j6⟩, j8, jo, jk, -⟩ := h86
                                  have f88 : e_fr (kAj a) w w85 := e_fr.trans (e_fr.refl w) (e_fr.mono jf (fun c k q => by exact q))
                                  show e_Ok 20 elay kcode eI (d + 1) 194 (164, [(7, (0, ln)), (6, (0, 100000)), (0, (1, 0)), (1, (0, a)), (2, (0, kd)), (3, (0, lo)), (4, (0, hi)), (5, (0, ln))], [(0, z87)], w85) _
                                  refine e_Ok.rets rfl rfl ?_
                                  exact ⟨_, rfl, jT, Or.inr ⟨by omega, f88, by omega, j8, (by unfold jC; rw [j1, j2, j5, j6]; omega), jo, jk⟩⟩
                                · replace h83 : (w (17 * a + 86) 8 : Int) ≥ 6 := by have q : ¬ ((w (17 * a + 86) 8 : Int) < 6) := h83; omega
                                  refine e_Ok.run (t' := (148, [(7, (0, ln)), (6, (0, 100000)), (0, (1, 0)), (1, (0, a)), (2, (0, kd)), (3, (0, lo)), (4, (0, hi)), (5, (0, ln))], [(0, (-3))], w)) 1 rfl ?_
                                  refine e_Ok.rets rfl rfl ?_
                                  exact ⟨_, rfl, hT, Or.inl rfl⟩
                              · replace h81 : (w 0 13 : Int) ≠ 0 := by have q : ¬ ((w 0 13 : Int) = 0) := h81; omega
                                refine e_Ok.run (t' := (131, [(7, (0, ln)), (6, (0, 100000)), (0, (1, 0)), (1, (0, a)), (2, (0, kd)), (3, (0, lo)), (4, (0, hi)), (5, (0, ln))], [(0, (-2))], w)) 1 rfl ?_
                                refine e_Ok.rets rfl rfl ?_
                                exact ⟨_, rfl, hT, Or.inl rfl⟩
                            · replace h80 : (z79 : Int) > 8000 := by have q : ¬ ((z79 : Int) ≤ 8000) := h80; omega
                              refine e_Ok.run (t' := (121, [(7, (0, ln)), (6, (0, 100000)), (0, (1, 0)), (1, (0, a)), (2, (0, kd)), (3, (0, lo)), (4, (0, hi)), (5, (0, ln))], [(0, (-1))], w)) 1 rfl ?_
                              refine e_Ok.rets rfl rfl ?_
                              exact ⟨_, rfl, hT, Or.inl rfl⟩
                          · replace h73 : (kd : Int) = 1 := by have q : ¬ ((kd : Int) ≠ 1) := h73; omega
                            exfalso; omega
                        · replace h72 : (kd : Int) = 1 := by have q : ¬ ((kd : Int) ≠ 1) := h72; omega
                          exfalso; omega
                      · replace h71 : (1 : Int) = 0 := by have q : ¬ ((1 : Int) ≠ 0) := h71; omega
                        exfalso; omega
                    · show e_Ok 20 elay kcode eI (d + 1) 194 (66, [(6, (0, 100000)), (0, (1, 0)), (1, (0, a)), (2, (0, kd)), (3, (0, lo)), (4, (0, hi)), (5, (0, ln))], [(0, 0)], w) _
                      refine e_Ok.if1 rfl (fun h89 => ?_) (fun h89 => ?_)
                      · replace h89 : (0 : Int) ≠ 0 := h89
                        exfalso; omega
                      · replace h89 : (0 : Int) = 0 := by have q : ¬ ((0 : Int) ≠ 0) := h89; omega
                        refine e_Ok.run (t' := (70, [(6, (0, 100000)), (0, (1, 0)), (1, (0, a)), (2, (0, kd)), (3, (0, lo)), (4, (0, hi)), (5, (0, ln))], [(0, (-1))], w)) 1 rfl ?_
                        refine e_Ok.rets rfl rfl ?_
                        exact ⟨_, rfl, hT, Or.inl rfl⟩
                  · replace h65 : (1 : Int) = 0 := by have q : ¬ ((1 : Int) ≠ 0) := h65; omega
                    exfalso; omega
                · show e_Ok 20 elay kcode eI (d + 1) 194 (52, [(6, (0, 100000)), (0, (1, 0)), (1, (0, a)), (2, (0, kd)), (3, (0, lo)), (4, (0, hi)), (5, (0, ln))], [(0, 0)], w) _
                  refine e_Ok.if1 rfl (fun h90 => ?_) (fun h90 => ?_)
                  · replace h90 : (0 : Int) ≠ 0 := h90
                    exfalso; omega
                  · replace h90 : (0 : Int) = 0 := by have q : ¬ ((0 : Int) ≠ 0) := h90; omega
                    refine e_Ok.run (t' := (56, [(6, (0, 100000)), (0, (1, 0)), (1, (0, a)), (2, (0, kd)), (3, (0, lo)), (4, (0, hi)), (5, (0, ln))], [(0, (-1))], w)) 1 rfl ?_
                    refine e_Ok.rets rfl rfl ?_
                    exact ⟨_, rfl, hT, Or.inl rfl⟩
            · show e_Ok 20 elay kcode eI (d + 1) 194 (41, [(6, (0, 100000)), (0, (1, 0)), (1, (0, a)), (2, (0, kd)), (3, (0, lo)), (4, (0, hi)), (5, (0, ln))], [(0, 0)], w) _
              refine e_Ok.if1 rfl (fun h91 => ?_) (fun h91 => ?_)
              · replace h91 : (0 : Int) = 0 := h91
                refine e_Ok.run (t' := (56, [(6, (0, 100000)), (0, (1, 0)), (1, (0, a)), (2, (0, kd)), (3, (0, lo)), (4, (0, hi)), (5, (0, ln))], [(0, (-1))], w)) 1 rfl ?_
                refine e_Ok.rets rfl rfl ?_
                exact ⟨_, rfl, hT, Or.inl rfl⟩
              · replace h91 : (0 : Int) ≠ 0 := by have q : ¬ ((0 : Int) = 0) := h91; omega
                exfalso; omega
        · replace h12 : (1 : Int) = 0 := by have q : ¬ ((1 : Int) ≠ 0) := h12; omega
          exfalso; omega
      · show e_Ok 20 elay kcode eI (d + 1) 194 (14, [(0, (1, 0)), (1, (0, a)), (2, (0, kd)), (3, (0, lo)), (4, (0, hi)), (5, (0, ln))], [(0, 0)], w) _
        refine e_Ok.if1 rfl (fun h92 => ?_) (fun h92 => ?_)
        · replace h92 : (0 : Int) ≠ 0 := h92
          exfalso; omega
        · replace h92 : (0 : Int) = 0 := by have q : ¬ ((0 : Int) ≠ 0) := h92; omega
          refine e_Ok.run (t' := (18, [(0, (1, 0)), (1, (0, a)), (2, (0, kd)), (3, (0, lo)), (4, (0, hi)), (5, (0, ln))], [(0, (-1))], w)) 1 rfl ?_
          refine e_Ok.rets rfl rfl ?_
          exact ⟨_, rfl, hT, Or.inl rfl⟩
  · show e_Ok 20 elay kcode eI (d + 1) 194 (5, [(0, (1, 0)), (1, (0, a)), (2, (0, kd)), (3, (0, lo)), (4, (0, hi)), (5, (0, ln))], [(0, 0)], w) _
    refine e_Ok.if1 rfl (fun h93 => ?_) (fun h93 => ?_)
    · replace h93 : (0 : Int) = 0 := h93
      refine e_Ok.run (t' := (18, [(0, (1, 0)), (1, (0, a)), (2, (0, kd)), (3, (0, lo)), (4, (0, hi)), (5, (0, ln))], [(0, (-1))], w)) 1 rfl ?_
      refine e_Ok.rets rfl rfl ?_
      exact ⟨_, rfl, hT, Or.inl rfl⟩
    · replace h93 : (0 : Int) ≠ 0 := by have q : ¬ ((0 : Int) = 0) := h93; omega
      exfalso; omega
end
