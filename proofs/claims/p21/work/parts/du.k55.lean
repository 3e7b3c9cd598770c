noncomputable section
/-! the class: parts, wire, build -/
def kCL (c k : Int) : Prop := kNw c k ∨ (c = 0 ∧ 11 ≤ k ∧ k ≤ 13) ∨ (86 ≤ c ∧ c ≤ 153 ∧ ¬ ((c - 86) % 17 = 0 ∧ k = 7)) ∨ (c = 2 ∧ 0 ≤ k ∧ k ≤ 2) ∨ c = 15 ∨ c = 18 ∨ (c = 19 ∧ (k = 0 ∨ k = 1)) ∨ (c = 74 ∧ k = 2) ∨ c = 77 ∨ (c = 250 ∧ (k = 0 ∨ k = 1)) ∨ (c = 262 ∧ k = 0) ∨ c = 274
theorem nw_cd {c k : Int} (h : isCd c) : ¬ kNw c k := by
  rcases h with rfl | rfl | rfl | rfl | rfl
  all_goals (unfold kNw; omega)
theorem nw_a {a k : Int} (h : 0 ≤ a ∧ a ≤ 3) (hk : k ≤ 10) : ¬ kNw (17 * a + 86) k := by
  obtain rfl | rfl | rfl | rfl : a = 0 ∨ a = 1 ∨ a = 2 ∨ a = 3 := by omega
  all_goals (unfold kNw; omega)
theorem nw_x {a : Int} (h : 0 ≤ a ∧ a ≤ 3) : ¬ kNw (17 * a + 88) 0 ∧ ¬ kNw (17 * a + 89) 0 := by
  obtain rfl | rfl | rfl | rfl : a = 0 ∨ a = 1 ∨ a = 2 ∨ a = 3 := by omega
  all_goals (unfold kNw; omega)
theorem cl_7 {a : Int} (h : 0 ≤ a ∧ a ≤ 3) : ¬ kCL (17 * a + 86) 7 := fun q => by
  have z := nw_a h (k := 7) (by omega)
  rcases q with q | q | q | q | q | q | q | q | q | q | q | q
  · exact z q
  all_goals omega
theorem cl_13 : ¬ kCL 1 3 := fun q => by
  have z : ¬ kNw 1 3 := by unfold kNw; omega
  rcases q with q | q | q | q | q | q | q | q | q | q | q | q
  · exact z q
  all_goals omega
theorem cl_mk {a cd c k : Int} (h : 0 ≤ a ∧ a ≤ 3) (hc : isCd cd) (q : kMk a cd c k) : kCL c k := by
  unfold isCd at hc
  rcases q with q | q | q | q
  · exact Or.inr (Or.inr (Or.inl (⟨by omega, by omega, by omega⟩)))
  · exact Or.inr (Or.inr (Or.inl (⟨by omega, by omega, by omega⟩)))
  · exact Or.inr (Or.inr (Or.inl (⟨by omega, by omega, by omega⟩)))
  · rcases hc with e | e | e | e | e
    · exact Or.inr (Or.inr (Or.inr (Or.inl (⟨by omega, by omega, by omega⟩))))
    all_goals exact Or.inr (Or.inr (Or.inl (⟨by omega, by omega, by omega⟩)))
/-- an arm made anew, with nothing in its program -/
def mK0 (w v : eW) (a : Int) : Prop := v (17 * a + 86) 8 = 0 ∧ (v (17 * a + 88) 0 = 0 ∧ v (17 * a + 89) 0 = 0) ∧ v (w (17 * a + 86) 7) 0 = 0 ∧ v (w (17 * a + 86) 7) 1 = 0
theorem mK0.eq {w v v' : eW} {a : Int} (h : mK0 w v a) (e8 : v' (17 * a + 86) 8 = v (17 * a + 86) 8) (ex : v' (17 * a + 88) 0 = v (17 * a + 88) 0) (ey : v' (17 * a + 89) 0 = v (17 * a + 89) 0) (e0 : v' (w (17 * a + 86) 7) 0 = v (w (17 * a + 86) 7) 0) (e1 : v' (w (17 * a + 86) 7) 1 = v (w (17 * a + 86) 7) 1) : mK0 w v' a := by
  unfold mK0 at h ⊢
  rw [e8, ex, ey, e0, e1]
  exact h
theorem mK0.fr {S : Int → Int → Prop} {w v v' : eW} {a : Int} (ga : 0 ≤ a ∧ a ≤ 3) (hC : isCd (w (17 * a + 86) 7)) (f : e_fr S v v') (hS : ∀ c k, S c k → ¬ (c = 2 ∧ k ≤ 1) ∧ (86 ≤ c → c ≤ 153 → ((c - 86) % 17 = 0 ∧ k ≠ 8) ∨ (((c - 86) % 17 = 2 ∨ (c - 86) % 17 = 3) ∧ k ≠ 0) ∨ ((c - 86) % 17 ≠ 0 ∧ (c - 86) % 17 ≠ 2 ∧ (c - 86) % 17 ≠ 3 ∧ (c - 86) % 17 ≠ 8))) (h : mK0 w v a) : mK0 w v' a := by
  unfold isCd at hC
  exact h.eq (f _ _ (fun q => by have := hS _ _ q; omega)) (f _ _ (fun q => by have := hS _ _ q; omega)) (f _ _ (fun q => by have := hS _ _ q; omega)) (f _ _ (fun q => by have := hS _ _ q; omega)) (f _ _ (fun q => by have := hS _ _ q; omega))
set_option maxHeartbeats 4000000 in
theorem c_76 {d : Nat} (hd : 24 ≤ d) {w : eW} (hT : e_Has kTy w) {n at_ : Int} (hn : w 19 1 = n) (ga : 0 ≤ at_ ∧ at_ ≤ 8) (hA : at_ < 4 → at_ < w 19 0) (hf : fKn w n) {s : Int} (g_s : (-2147483648) ≤ s ∧ s ≤ 2147483647) {x : Int} (g_x : (-2147483648) ≤ x ∧ x ≤ 2147483647) {y : Int} (g_y : (-2147483648) ≤ y ∧ y ≤ 2147483647) {r_ : Int} (g_r_ : (-2147483648) ≤ r_ ∧ r_ ≤ 2147483647) : e_Ok 20 elay kcode eI d 76 (0, [(0, (1, 19)), (1, (0, at_)), (2, (0, s)), (3, (0, x)), (4, (0, y)), (5, (0, r_))], [], w) (fun r w' => ∃ z : Int, r = [(0, z)] ∧ e_Has kTy w' ∧ ((32 ≤ n ∧ w' = w) ∨ (n < 32 ∧ e_fr kAp w w' ∧ w' 19 1 = n + 1 ∧ fKn w' (n + 1) ∧ w' (n + 42) 0 = at_ ∧ ∀ p, 0 ≤ p → p < n → w' (p + 42) 0 = w (p + 42) 0))) := by
  obtain ⟨d, rfl⟩ : ∃ e, d = e + 1 := ⟨d - 1, by omega⟩
  have hb0 := e_Has.get hT (c := 19) (k := 0) (lo := 0) (hi := 4) rfl (by decide)
  have hp0 := e_Has.get hT (c := 19) (k := 1) (lo := 0) (hi := 32) rfl (by decide)
  refine e_Ok.run (t' := (1, [(0, (1, 19)), (1, (0, at_)), (2, (0, s)), (3, (0, x)), (4, (0, y)), (5, (0, r_))], [(1, 19)], w)) 1 rfl ?_
  refine e_Ok.getf (z := n) rfl (el_o rfl) rfl rfl hn (by omega) ?_
  refine e_Ok.run (t' := (6, [(0, (1, 19)), (1, (0, at_)), (2, (0, s)), (3, (0, x)), (4, (0, y)), (5, (0, r_))], [(0, 32), (0, n)], w)) 1 rfl ?_
  refine e_Ok.if2 rfl (fun h1 => ?_) (fun h1 => ?_)
  · replace h1 : (n : Int) < 32 := h1
    refine e_Ok.run (t' := (13, [(0, (1, 19)), (1, (0, at_)), (2, (0, s)), (3, (0, x)), (4, (0, y)), (5, (0, r_))], [(1, 19)], w)) 1 rfl ?_
    refine e_Ok.getf (z := n) rfl (el_o rfl) rfl rfl hn (by omega) ?_
    refine e_Ok.run (t' := (19, [(6, (0, n)), (0, (1, 19)), (1, (0, at_)), (2, (0, s)), (3, (0, x)), (4, (0, y)), (5, (0, r_))], [(1, 19)], w)) 2 rfl ?_
    refine e_Ok.getr (z := 41) rfl (el_o rfl) rfl rfl (Eq.trans (e_Has.eq hT rfl) (by omega)) (by omega) ?_
    refine e_Ok.run (t' := (24, [(6, (0, n)), (0, (1, 19)), (1, (0, at_)), (2, (0, s)), (3, (0, x)), (4, (0, y)), (5, (0, r_))], [(0, n), (1, 41)], w)) 1 rfl ?_
    refine e_Ok.aald (z := n + 42) rfl (el_o rfl) rfl (by omega) (Eq.trans (e_Has.eq hT (k41 (by omega))) (by omega)) (by omega) ?_
    refine e_Ok.run (t' := (27, [(6, (0, n)), (0, (1, 19)), (1, (0, at_)), (2, (0, s)), (3, (0, x)), (4, (0, y)), (5, (0, r_))], [(0, at_), (0, 0), (1, n + 42)], w)) 2 rfl ?_
    refine e_Ok.ast rfl (lG (p := n) (by omega) (by omega)) rfl rfl (by omega) ?_
    generalize hw2 : e_up w (n + 42) 0 at_ = w2
    have f3 : e_fr kAp w w2 := e_fr.up (e_fr.refl w) hw2 (by unfold kAp; omega)
    have hT4 : e_Has kTy w2 := e_Has.upr hT hw2 (kG_0 (p := n) (by omega) (by omega)) (by omega)
    refine e_Ok.run (t' := (29, [(6, (0, n)), (0, (1, 19)), (1, (0, at_)), (2, (0, s)), (3, (0, x)), (4, (0, y)), (5, (0, r_))], [(1, 19)], w2)) 1 rfl ?_
    refine e_Ok.getr (z := 41) rfl (el_o rfl) rfl rfl (by rw [← hw2]; exact (e_up_ne _ _ (Or.inr (by omega))).trans (Eq.trans (e_Has.eq hT rfl) (by omega))) (by omega) ?_
    refine e_Ok.run (t' := (34, [(6, (0, n)), (0, (1, 19)), (1, (0, at_)), (2, (0, s)), (3, (0, x)), (4, (0, y)), (5, (0, r_))], [(0, n), (1, 41)], w2)) 1 rfl ?_
    refine e_Ok.aald (z := n + 42) rfl (el_o rfl) rfl (by omega) (by rw [← hw2]; exact (e_up_ne _ _ (Or.inl (by omega))).trans (Eq.trans (e_Has.eq hT (k41 (by omega))) (by omega))) (by omega) ?_
    refine e_Ok.run (t' := (37, [(6, (0, n)), (0, (1, 19)), (1, (0, at_)), (2, (0, s)), (3, (0, x)), (4, (0, y)), (5, (0, r_))], [(0, s), (0, 1), (1, n + 42)], w2)) 2 rfl ?_
    refine e_Ok.ast rfl (lG (p := n) (by omega) (by omega)) rfl rfl (by omega) ?_
    generalize hw5 : e_up w2 (n + 42) 1 s = w5
    have f6 : e_fr kAp w w5 := e_fr.up f3 hw5 (by unfold kAp; omega)
    have hT7 : e_Has kTy w5 := e_Has.upr hT4 hw5 (kG_1 (p := n) (by omega) (by omega)) (by omega)
    refine e_Ok.run (t' := (39, [(6, (0, n)), (0, (1, 19)), (1, (0, at_)), (2, (0, s)), (3, (0, x)), (4, (0, y)), (5, (0, r_))], [(1, 19)], w5)) 1 rfl ?_
    refine e_Ok.getr (z := 41) rfl (el_o rfl) rfl rfl (by rw [← hw5]; exact (e_up_ne _ _ (Or.inr (by omega))).trans (by rw [← hw2]; exact (e_up_ne _ _ (Or.inr (by omega))).trans (Eq.trans (e_Has.eq hT rfl) (by omega)))) (by omega) ?_
    refine e_Ok.run (t' := (44, [(6, (0, n)), (0, (1, 19)), (1, (0, at_)), (2, (0, s)), (3, (0, x)), (4, (0, y)), (5, (0, r_))], [(0, n), (1, 41)], w5)) 1 rfl ?_
    refine e_Ok.aald (z := n + 42) rfl (el_o rfl) rfl (by omega) (by rw [← hw5]; exact (e_up_ne _ _ (Or.inl (by omega))).trans (by rw [← hw2]; exact (e_up_ne _ _ (Or.inl (by omega))).trans (Eq.trans (e_Has.eq hT (k41 (by omega))) (by omega)))) (by omega) ?_
    refine e_Ok.run (t' := (47, [(6, (0, n)), (0, (1, 19)), (1, (0, at_)), (2, (0, s)), (3, (0, x)), (4, (0, y)), (5, (0, r_))], [(0, x), (0, 2), (1, n + 42)], w5)) 2 rfl ?_
    refine e_Ok.ast rfl (lG (p := n) (by omega) (by omega)) rfl rfl (by omega) ?_
    generalize hw8 : e_up w5 (n + 42) 2 x = w8
    have f9 : e_fr kAp w w8 := e_fr.up f6 hw8 (by unfold kAp; omega)
    have hT10 : e_Has kTy w8 := e_Has.upr hT7 hw8 (kG_2 (p := n) (by omega) (by omega)) (by omega)
    refine e_Ok.run (t' := (49, [(6, (0, n)), (0, (1, 19)), (1, (0, at_)), (2, (0, s)), (3, (0, x)), (4, (0, y)), (5, (0, r_))], [(1, 19)], w8)) 1 rfl ?_
    refine e_Ok.getr (z := 41) rfl (el_o rfl) rfl rfl (by rw [← hw8]; exact (e_up_ne _ _ (Or.inr (by omega))).trans (by rw [← hw5]; exact (e_up_ne _ _ (Or.inr (by omega))).trans (by rw [← hw2]; exact (e_up_ne _ _ (Or.inr (by omega))).trans (Eq.trans (e_Has.eq hT rfl) (by omega))))) (by omega) ?_
    refine e_Ok.run (t' := (54, [(6, (0, n)), (0, (1, 19)), (1, (0, at_)), (2, (0, s)), (3, (0, x)), (4, (0, y)), (5, (0, r_))], [(0, n), (1, 41)], w8)) 1 rfl ?_
    refine e_Ok.aald (z := n + 42) rfl (el_o rfl) rfl (by omega) (by rw [← hw8]; exact (e_up_ne _ _ (Or.inl (by omega))).trans (by rw [← hw5]; exact (e_up_ne _ _ (Or.inl (by omega))).trans (by rw [← hw2]; exact (e_up_ne _ _ (Or.inl (by omega))).trans (Eq.trans (e_Has.eq hT (k41 (by omega))) (by omega))))) (by omega) ?_
    refine e_Ok.run (t' := (58, [(6, (0, n)), (0, (1, 19)), (1, (0, at_)), (2, (0, s)), (3, (0, x)), (4, (0, y)), (5, (0, r_))], [(0, y), (0, 3), (1, n + 42)], w8)) 2 rfl ?_
    refine e_Ok.ast rfl (lG (p := n) (by omega) (by omega)) rfl rfl (by omega) ?_
    generalize hw11 : e_up w8 (n + 42) 3 y = w11
    have f12 : e_fr kAp w w11 := e_fr.up f9 hw11 (by unfold kAp; omega)
    have hT13 : e_Has kTy w11 := e_Has.upr hT10 hw11 (kG_3 (p := n) (by omega) (by omega)) (by omega)
    refine e_Ok.run (t' := (60, [(6, (0, n)), (0, (1, 19)), (1, (0, at_)), (2, (0, s)), (3, (0, x)), (4, (0, y)), (5, (0, r_))], [(1, 19)], w11)) 1 rfl ?_
    refine e_Ok.getr (z := 38) rfl (el_o rfl) rfl rfl (by rw [← hw11]; exact (e_up_ne _ _ (Or.inr (by omega))).trans (by rw [← hw8]; exact (e_up_ne _ _ (Or.inr (by omega))).trans (by rw [← hw5]; exact (e_up_ne _ _ (Or.inr (by omega))).trans (by rw [← hw2]; exact (e_up_ne _ _ (Or.inr (by omega))).trans (Eq.trans (e_Has.eq hT rfl) (by omega)))))) (by omega) ?_
    refine e_Ok.run (t' := (67, [(6, (0, n)), (0, (1, 19)), (1, (0, at_)), (2, (0, s)), (3, (0, x)), (4, (0, y)), (5, (0, r_))], [(0, r_), (0, n), (1, 38)], w11)) 2 rfl ?_
    refine e_Ok.ast rfl (el_o rfl) rfl rfl (by omega) ?_
    generalize hw14 : e_up w11 38 n r_ = w14
    have f15 : e_fr kAp w w14 := e_fr.up f12 hw14 (by unfold kAp; omega)
    have hT16 : e_Has kTy w14 := e_Has.upr hT13 hw14 rfl (by omega)
    refine e_Ok.run (t' := (70, [(6, (0, n)), (0, (1, 19)), (1, (0, at_)), (2, (0, s)), (3, (0, x)), (4, (0, y)), (5, (0, r_))], [(1, 19), (1, 19)], w14)) 2 rfl ?_
    refine e_Ok.getf (z := n) rfl (el_o rfl) rfl rfl (by rw [← hw14]; exact (e_up_ne _ _ (Or.inl (by omega))).trans (by rw [← hw11]; exact (e_up_ne _ _ (Or.inr (by omega))).trans (by rw [← hw8]; exact (e_up_ne _ _ (Or.inr (by omega))).trans (by rw [← hw5]; exact (e_up_ne _ _ (Or.inl (by omega))).trans (by rw [← hw2]; exact (e_up_ne _ _ (Or.inr (by omega))).trans hn))))) (by omega) ?_
    refine e_Ok.run (t' := (74, [(6, (0, n)), (0, (1, 19)), (1, (0, at_)), (2, (0, s)), (3, (0, x)), (4, (0, y)), (5, (0, r_))], [(0, 1), (0, n), (1, 19)], w14)) 1 rfl ?_
    refine e_Ok.add (z := n + 1) rfl (by omega) (by omega) ?_
    refine e_Ok.putf rfl (el_o rfl) rfl rfl ?_
    generalize hw17 : e_up w14 19 1 (n + 1) = w17
    have f18 : e_fr kAp w w17 := e_fr.up f15 hw17 (by unfold kAp; omega)
    have hT19 : e_Has kTy w17 := e_Has.upr hT16 hw17 rfl (by omega)
    refine e_Ok.run (t' := (81, [(6, (0, n)), (0, (1, 19)), (1, (0, at_)), (2, (0, s)), (3, (0, x)), (4, (0, y)), (5, (0, r_))], [(0, n), (1, 19)], w17)) 2 rfl ?_
    have u0 : w17 19 0 = w 19 0 := by rw [← hw17, e_up_ne _ _ (by omega), ← hw14, e_up_ne _ _ (by omega), ← hw11, e_up_ne _ _ (by omega), ← hw8, e_up_ne _ _ (by omega), ← hw5, e_up_ne _ _ (by omega), ← hw2, e_up_ne _ _ (by omega)]
    have un : w17 (n + 42) 0 = at_ := (by rw [← hw17]; exact (e_up_ne _ _ (Or.inr (by omega))).trans (by rw [← hw14]; exact (e_up_ne _ _ (Or.inl (by omega))).trans (by rw [← hw11]; exact (e_up_ne _ _ (Or.inr (by omega))).trans (by rw [← hw8]; exact (e_up_ne _ _ (Or.inr (by omega))).trans (by rw [← hw5]; exact (e_up_ne _ _ (Or.inr (by omega))).trans (by rw [← hw2]; exact e_up_eq _ _ _ _))))))
    have u1 : w17 19 1 = n + 1 := (by rw [← hw17]; exact e_up_eq _ _ _ _)
    have uo : ∀ p k, 0 ≤ p → p < n → w17 (p + 42) k = w (p + 42) k := fun p k g1 g2 => by rw [← hw17, e_up_ne _ _ (by omega), ← hw14, e_up_ne _ _ (by omega), ← hw11, e_up_ne _ _ (by omega), ← hw8, e_up_ne _ _ (by omega), ← hw5, e_up_ne _ _ (by omega), ← hw2, e_up_ne _ _ (by omega)]
    have uf : fKn w17 n := fKn.eq0 hb0.2 u0 (fun c k g => by rw [← hw17, e_up_ne _ _ (by omega), ← hw14, e_up_ne _ _ (by omega), ← hw11, e_up_ne _ _ (by omega), ← hw8, e_up_ne _ _ (by omega), ← hw5, e_up_ne _ _ (by omega), ← hw2, e_up_ne _ _ (by omega)]) hf
    refine e_Ok.callV rfl (by omega) rfl rfl rfl rfl (c_78_k (by omega) (p := n) hT19 (by omega) uf (by rw [un, u0]; exact hA)) (fun r20 w21 h22 => ?_)
    obtain ⟨rfl, pf, pT, pk⟩ := h22
    have f23 : e_fr kAp w w21 := e_fr.trans f18 (e_fr.mono pf (fun c k q => by unfold kFl at q; unfold kAp; omega))
    show e_Ok 20 elay kcode eI (d + 1) 76 (84, [(6, (0, n)), (0, (1, 19)), (1, (0, at_)), (2, (0, s)), (3, (0, x)), (4, (0, y)), (5, (0, r_))], [], w21) _
    refine e_Ok.run (t' := (86, [(6, (0, n)), (0, (1, 19)), (1, (0, at_)), (2, (0, s)), (3, (0, x)), (4, (0, y)), (5, (0, r_))], [(0, n)], w21)) 1 rfl ?_
    refine e_Ok.rets rfl rfl ?_
    exact ⟨_, rfl, pT, Or.inr ⟨by omega, f23, (by rw [pf _ _ (by unfold kFl; omega)]; exact u1), pk, (by rw [pf _ _ (by unfold kFl; omega)]; exact un), (fun p g1 g2 => by rw [pf _ _ (by unfold kFl; omega)]; exact uo p 0 g1 g2)⟩⟩
  · replace h1 : (n : Int) ≥ 32 := by have q : ¬ ((n : Int) < 32) := h1; omega
    refine e_Ok.run (t' := (11, [(0, (1, 19)), (1, (0, at_)), (2, (0, s)), (3, (0, x)), (4, (0, y)), (5, (0, r_))], [(0, (-3))], w)) 1 rfl ?_
    refine e_Ok.rets rfl rfl ?_
    exact ⟨_, rfl, hT, Or.inl ⟨by omega, rfl⟩⟩
set_option maxHeartbeats 4000000 in
theorem c_203 {d : Nat} (hd : 27 ≤ d) {w : eW} (hT : e_Has kTy w) (hO : 0 ≤ w 0 13 ∧ w 0 13 ≤ 1) (hf : w 0 13 = 0 → fKn w (w 19 1)) {a : Int} (g_a : (-2147483648) ≤ a ∧ a ≤ 2147483647) {b : Int} (g_b : (-2147483648) ≤ b ∧ b ≤ 2147483647) {c : Int} (g_c : (-2147483648) ≤ c ∧ c ≤ 2147483647) : e_Ok 20 elay kcode eI d 203 (0, [(0, (1, 0)), (1, (0, a)), (2, (0, b)), (3, (0, c))], [], w) (fun r w' => ∃ z : Int, r = [(0, z)] ∧ e_Has kTy w' ∧ (w' = w ∨ (w 0 13 = 0 ∧ e_fr kAp w w' ∧ w' 19 1 = w 19 1 + 1 ∧ fKn w' (w 19 1 + 1) ∧ (w' (w 19 1 + 42) 0 < 4 → w' (w 19 1 + 42) 0 < w 19 0) ∧ ∀ p, 0 ≤ p → p < w 19 1 → w' (p + 42) 0 = w (p + 42) 0))) := by
  obtain ⟨d, rfl⟩ : ∃ e, d = e + 1 := ⟨d - 1, by omega⟩
  have hw0 := e_Has.get hT (c := 0) (k := 11) (lo := 0) (hi := 4) rfl (by decide)
  have hb0 := e_Has.get hT (c := 19) (k := 0) (lo := 0) (hi := 4) rfl (by decide)
  refine e_Ok.run (t' := (2, [(0, (1, 0)), (1, (0, a)), (2, (0, b)), (3, (0, c))], [(0, a), (1, 0)], w)) 2 rfl ?_
  refine e_Ok.callV rfl (by omega) rfl rfl rfl rfl (c_248 (by omega) hT (by omega)) (fun r1 w2 h3 => ?_)
  obtain ⟨z4, rfl, rfl, q5⟩ := h3
  obtain ⟨rfl, q5⟩ | ⟨rfl, q5⟩ := q5
  · show e_Ok 20 elay kcode eI (d + 1) 203 (5, [(0, (1, 0)), (1, (0, a)), (2, (0, b)), (3, (0, c))], [(0, 1)], w) _
    refine e_Ok.if1 rfl (fun h6 => ?_) (fun h6 => ?_)
    · replace h6 : (1 : Int) = 0 := h6
      exfalso; omega
    · replace h6 : (1 : Int) ≠ 0 := by have q : ¬ ((1 : Int) = 0) := h6; omega
      refine e_Ok.run (t' := (11, [(0, (1, 0)), (1, (0, a)), (2, (0, b)), (3, (0, c))], [(1, 0), (0, 0), (0, b)], w)) 3 rfl ?_
      refine e_Ok.getr (z := 19) rfl (el_o rfl) rfl rfl (Eq.trans (e_Has.eq hT rfl) (by omega)) (by omega) ?_
      refine e_Ok.getr (z := 20) rfl (el_o rfl) rfl rfl (Eq.trans (e_Has.eq hT rfl) (by omega)) (by omega) ?_
      refine e_Ok.run (t' := (18, [(0, (1, 0)), (1, (0, a)), (2, (0, b)), (3, (0, c))], [(0, a), (1, 20), (0, 0), (0, b)], w)) 1 rfl ?_
      have h7 := (e_Has.get hT (c := 20) (k := a) (lo := (-2147483648)) (hi := 2147483647) rfl (by decide))
      refine e_Ok.ald (z := w 20 a) rfl (el_o rfl) rfl (by omega) rfl (by omega) ?_
      refine e_Ok.callS rfl (by omega) rfl rfl (c_242 (by omega) (by omega) (by omega)) (fun r8 w9 h10 => ?_)
      obtain ⟨z11, rfl, rfl, q12⟩ := h10
      obtain ⟨rfl, q12⟩ | ⟨rfl, q12⟩ := q12
      · show e_Ok 20 elay kcode eI (d + 1) 203 (22, [(0, (1, 0)), (1, (0, a)), (2, (0, b)), (3, (0, c))], [(0, 1)], w) _
        refine e_Ok.if1 rfl (fun h13 => ?_) (fun h13 => ?_)
        · replace h13 : (1 : Int) = 0 := h13
          exfalso; omega
        · replace h13 : (1 : Int) ≠ 0 := by have q : ¬ ((1 : Int) = 0) := h13; omega
          refine e_Ok.run (t' := (30, [(0, (1, 0)), (1, (0, a)), (2, (0, b)), (3, (0, c))], [(0, 800), (0, 0), (0, c)], w)) 3 rfl ?_
          refine e_Ok.callS rfl (by omega) rfl rfl (c_242 (by omega) (by omega) (by omega)) (fun r14 w15 h16 => ?_)
          obtain ⟨z17, rfl, rfl, q18⟩ := h16
          obtain ⟨rfl, q18⟩ | ⟨rfl, q18⟩ := q18
          · show e_Ok 20 elay kcode eI (d + 1) 203 (33, [(0, (1, 0)), (1, (0, a)), (2, (0, b)), (3, (0, c))], [(0, 1)], w) _
            refine e_Ok.if1 rfl (fun h19 => ?_) (fun h19 => ?_)
            · replace h19 : (1 : Int) ≠ 0 := h19
              refine e_Ok.run (t' := (39, [(0, (1, 0)), (1, (0, a)), (2, (0, b)), (3, (0, c))], [(1, 0)], w)) 1 rfl ?_
              refine e_Ok.getf (z := w 0 13) rfl (el_o rfl) rfl rfl rfl (by omega) ?_
              refine e_Ok.if1 rfl (fun h20 => ?_) (fun h20 => ?_)
              · replace h20 : (w 0 13 : Int) = 0 := h20
                refine e_Ok.run (t' := (49, [(0, (1, 0)), (1, (0, a)), (2, (0, b)), (3, (0, c))], [(1, 0)], w)) 1 rfl ?_
                refine e_Ok.getr (z := 19) rfl (el_o rfl) rfl rfl (Eq.trans (e_Has.eq hT rfl) (by omega)) (by omega) ?_
                refine e_Ok.run (t' := (57, [(0, (1, 0)), (1, (0, a)), (2, (0, b)), (3, (0, c))], [(0, c), (0, 0), (0, 0), (0, b), (0, a), (1, 19)], w)) 5 rfl ?_
                refine e_Ok.callV rfl (by omega) rfl rfl rfl rfl (c_76 (by omega) (n := w 19 1) (at_ := a) hT rfl (by omega) (by omega) (hf (by omega)) (by omega) (by omega) (by omega) (by omega)) (fun r21 w22 h23 => ?_)
                obtain ⟨z24, rfl, pT, ⟨pg, pe⟩ | ⟨pg, pf, p1, pk, p0, po⟩⟩ := h23
                · show e_Ok 20 elay kcode eI (d + 1) 203 (60, [(0, (1, 0)), (1, (0, a)), (2, (0, b)), (3, (0, c))], [(0, z24)], w22) _
                  refine e_Ok.rets rfl rfl ?_
                  exact ⟨_, rfl, pT, Or.inl pe⟩
                · show e_Ok 20 elay kcode eI (d + 1) 203 (60, [(0, (1, 0)), (1, (0, a)), (2, (0, b)), (3, (0, c))], [(0, z24)], w22) _
                  have f25 : e_fr kAp w w22 := e_fr.trans (e_fr.refl w) (e_fr.mono pf (fun c k q => by exact q))
                  refine e_Ok.rets rfl rfl ?_
                  exact ⟨_, rfl, pT, Or.inr ⟨by omega, f25, p1, pk, (by rw [p0]; omega), po⟩⟩
              · replace h20 : (w 0 13 : Int) ≠ 0 := by have q : ¬ ((w 0 13 : Int) = 0) := h20; omega
                refine e_Ok.run (t' := (47, [(0, (1, 0)), (1, (0, a)), (2, (0, b)), (3, (0, c))], [(0, (-2))], w)) 1 rfl ?_
                refine e_Ok.rets rfl rfl ?_
                exact ⟨_, rfl, hT, Or.inl rfl⟩
            · replace h19 : (1 : Int) = 0 := by have q : ¬ ((1 : Int) ≠ 0) := h19; omega
              exfalso; omega
          · show e_Ok 20 elay kcode eI (d + 1) 203 (33, [(0, (1, 0)), (1, (0, a)), (2, (0, b)), (3, (0, c))], [(0, 0)], w) _
            refine e_Ok.if1 rfl (fun h26 => ?_) (fun h26 => ?_)
            · replace h26 : (0 : Int) ≠ 0 := h26
              exfalso; omega
            · replace h26 : (0 : Int) = 0 := by have q : ¬ ((0 : Int) ≠ 0) := h26; omega
              refine e_Ok.run (t' := (37, [(0, (1, 0)), (1, (0, a)), (2, (0, b)), (3, (0, c))], [(0, (-1))], w)) 1 rfl ?_
              refine e_Ok.rets rfl rfl ?_
              exact ⟨_, rfl, hT, Or.inl rfl⟩
      · show e_Ok 20 elay kcode eI (d + 1) 203 (22, [(0, (1, 0)), (1, (0, a)), (2, (0, b)), (3, (0, c))], [(0, 0)], w) _
        refine e_Ok.if1 rfl (fun h27 => ?_) (fun h27 => ?_)
        · replace h27 : (0 : Int) = 0 := h27
          refine e_Ok.run (t' := (37, [(0, (1, 0)), (1, (0, a)), (2, (0, b)), (3, (0, c))], [(0, (-1))], w)) 1 rfl ?_
          refine e_Ok.rets rfl rfl ?_
          exact ⟨_, rfl, hT, Or.inl rfl⟩
        · replace h27 : (0 : Int) ≠ 0 := by have q : ¬ ((0 : Int) = 0) := h27; omega
          exfalso; omega
  · show e_Ok 20 elay kcode eI (d + 1) 203 (5, [(0, (1, 0)), (1, (0, a)), (2, (0, b)), (3, (0, c))], [(0, 0)], w) _
    refine e_Ok.if1 rfl (fun h28 => ?_) (fun h28 => ?_)
    · replace h28 : (0 : Int) = 0 := h28
      refine e_Ok.run (t' := (37, [(0, (1, 0)), (1, (0, a)), (2, (0, b)), (3, (0, c))], [(0, (-1))], w)) 1 rfl ?_
      refine e_Ok.rets rfl rfl ?_
      exact ⟨_, rfl, hT, Or.inl rfl⟩
    · replace h28 : (0 : Int) ≠ 0 := by have q : ¬ ((0 : Int) = 0) := h28; omega
      exfalso; omega
set_option maxHeartbeats 4000000 in
theorem c_204 {d : Nat} (hd : 27 ≤ d) {w : eW} (hT : e_Has kTy w) (hO : 0 ≤ w 0 13 ∧ w 0 13 ≤ 1) (hf : w 0 13 = 0 → fKn w (w 19 1)) {a : Int} (g_a : (-2147483648) ≤ a ∧ a ≤ 2147483647) {b : Int} (g_b : (-2147483648) ≤ b ∧ b ≤ 2147483647) {c : Int} (g_c : (-2147483648) ≤ c ∧ c ≤ 2147483647) : e_Ok 20 elay kcode eI d 204 (0, [(0, (1, 0)), (1, (0, a)), (2, (0, b)), (3, (0, c))], [], w) (fun r w' => ∃ z : Int, r = [(0, z)] ∧ e_Has kTy w' ∧ (w' = w ∨ (w 0 13 = 0 ∧ e_fr kAp w w' ∧ w' 19 1 = w 19 1 + 1 ∧ fKn w' (w 19 1 + 1) ∧ (w' (w 19 1 + 42) 0 < 4 → w' (w 19 1 + 42) 0 < w 19 0) ∧ ∀ p, 0 ≤ p → p < w 19 1 → w' (p + 42) 0 = w (p + 42) 0))) := by
  obtain ⟨d, rfl⟩ : ∃ e, d = e + 1 := ⟨d - 1, by omega⟩
  have hw0 := e_Has.get hT (c := 0) (k := 11) (lo := 0) (hi := 4) rfl (by decide)
  have hb0 := e_Has.get hT (c := 19) (k := 0) (lo := 0) (hi := 4) rfl (by decide)
  refine e_Ok.run (t' := (2, [(0, (1, 0)), (1, (0, a)), (2, (0, b)), (3, (0, c))], [(0, b), (0, a)], w)) 2 rfl ?_
  refine e_Ok.callS rfl (by omega) rfl rfl (c_243 (by omega) (by omega) (by omega)) (fun r1 w2 h3 => ?_)
  obtain ⟨z4, rfl, rfl, q5⟩ := h3
  obtain ⟨rfl, q5⟩ | ⟨rfl, q5⟩ := q5
  · show e_Ok 20 elay kcode eI (d + 1) 204 (5, [(0, (1, 0)), (1, (0, a)), (2, (0, b)), (3, (0, c))], [(0, 1)], w) _
    refine e_Ok.if1 rfl (fun h6 => ?_) (fun h6 => ?_)
    · replace h6 : (1 : Int) = 0 := h6
      exfalso; omega
    · replace h6 : (1 : Int) ≠ 0 := by have q : ¬ ((1 : Int) = 0) := h6; omega
      refine e_Ok.run (t' := (13, [(0, (1, 0)), (1, (0, a)), (2, (0, b)), (3, (0, c))], [(0, 800), (0, 0), (0, c)], w)) 3 rfl ?_
      refine e_Ok.callS rfl (by omega) rfl rfl (c_242 (by omega) (by omega) (by omega)) (fun r7 w8 h9 => ?_)
      obtain ⟨z10, rfl, rfl, q11⟩ := h9
      obtain ⟨rfl, q11⟩ | ⟨rfl, q11⟩ := q11
      · show e_Ok 20 elay kcode eI (d + 1) 204 (16, [(0, (1, 0)), (1, (0, a)), (2, (0, b)), (3, (0, c))], [(0, 1)], w) _
        refine e_Ok.if1 rfl (fun h12 => ?_) (fun h12 => ?_)
        · replace h12 : (1 : Int) ≠ 0 := h12
          refine e_Ok.run (t' := (22, [(0, (1, 0)), (1, (0, a)), (2, (0, b)), (3, (0, c))], [(1, 0)], w)) 1 rfl ?_
          refine e_Ok.getf (z := w 0 13) rfl (el_o rfl) rfl rfl rfl (by omega) ?_
          refine e_Ok.if1 rfl (fun h13 => ?_) (fun h13 => ?_)
          · replace h13 : (w 0 13 : Int) = 0 := h13
            refine e_Ok.run (t' := (32, [(0, (1, 0)), (1, (0, a)), (2, (0, b)), (3, (0, c))], [(1, 0)], w)) 1 rfl ?_
            refine e_Ok.getr (z := 19) rfl (el_o rfl) rfl rfl (Eq.trans (e_Has.eq hT rfl) (by omega)) (by omega) ?_
            refine e_Ok.run (t' := (41, [(0, (1, 0)), (1, (0, a)), (2, (0, b)), (3, (0, c))], [(0, c), (0, b), (0, a), (0, 0), (0, 8), (1, 19)], w)) 5 rfl ?_
            refine e_Ok.callV rfl (by omega) rfl rfl rfl rfl (c_76 (by omega) (n := w 19 1) (at_ := 8) hT rfl (by omega) (by omega) (hf (by omega)) (by omega) (by omega) (by omega) (by omega)) (fun r14 w15 h16 => ?_)
            obtain ⟨z17, rfl, pT, ⟨pg, pe⟩ | ⟨pg, pf, p1, pk, p0, po⟩⟩ := h16
            · show e_Ok 20 elay kcode eI (d + 1) 204 (44, [(0, (1, 0)), (1, (0, a)), (2, (0, b)), (3, (0, c))], [(0, z17)], w15) _
              refine e_Ok.rets rfl rfl ?_
              exact ⟨_, rfl, pT, Or.inl pe⟩
            · show e_Ok 20 elay kcode eI (d + 1) 204 (44, [(0, (1, 0)), (1, (0, a)), (2, (0, b)), (3, (0, c))], [(0, z17)], w15) _
              have f18 : e_fr kAp w w15 := e_fr.trans (e_fr.refl w) (e_fr.mono pf (fun c k q => by exact q))
              refine e_Ok.rets rfl rfl ?_
              exact ⟨_, rfl, pT, Or.inr ⟨by omega, f18, p1, pk, (by rw [p0]; omega), po⟩⟩
          · replace h13 : (w 0 13 : Int) ≠ 0 := by have q : ¬ ((w 0 13 : Int) = 0) := h13; omega
            refine e_Ok.run (t' := (30, [(0, (1, 0)), (1, (0, a)), (2, (0, b)), (3, (0, c))], [(0, (-2))], w)) 1 rfl ?_
            refine e_Ok.rets rfl rfl ?_
            exact ⟨_, rfl, hT, Or.inl rfl⟩
        · replace h12 : (1 : Int) = 0 := by have q : ¬ ((1 : Int) ≠ 0) := h12; omega
          exfalso; omega
      · show e_Ok 20 elay kcode eI (d + 1) 204 (16, [(0, (1, 0)), (1, (0, a)), (2, (0, b)), (3, (0, c))], [(0, 0)], w) _
        refine e_Ok.if1 rfl (fun h19 => ?_) (fun h19 => ?_)
        · replace h19 : (0 : Int) ≠ 0 := h19
          exfalso; omega
        · replace h19 : (0 : Int) = 0 := by have q : ¬ ((0 : Int) ≠ 0) := h19; omega
          refine e_Ok.run (t' := (20, [(0, (1, 0)), (1, (0, a)), (2, (0, b)), (3, (0, c))], [(0, (-1))], w)) 1 rfl ?_
          refine e_Ok.rets rfl rfl ?_
          exact ⟨_, rfl, hT, Or.inl rfl⟩
  · show e_Ok 20 elay kcode eI (d + 1) 204 (5, [(0, (1, 0)), (1, (0, a)), (2, (0, b)), (3, (0, c))], [(0, 0)], w) _
    refine e_Ok.if1 rfl (fun h20 => ?_) (fun h20 => ?_)
    · replace h20 : (0 : Int) = 0 := h20
      refine e_Ok.run (t' := (20, [(0, (1, 0)), (1, (0, a)), (2, (0, b)), (3, (0, c))], [(0, (-1))], w)) 1 rfl ?_
      refine e_Ok.rets rfl rfl ?_
      exact ⟨_, rfl, hT, Or.inl rfl⟩
    · replace h20 : (0 : Int) ≠ 0 := by have q : ¬ ((0 : Int) = 0) := h20; omega
      exfalso; omega
set_option maxHeartbeats 4000000 in
theorem c_209 {d : Nat} (hd : 28 ≤ d) {w : eW} (hT : e_Has kTy w) (hO : 0 ≤ w 0 13 ∧ w 0 13 ≤ 1) (hA : w 0 13 = 0 → kAc w) {a : Int} (g_a : (-2147483648) ≤ a ∧ a ≤ 2147483647) {b : Int} (g_b : (-2147483648) ≤ b ∧ b ≤ 2147483647) {c : Int} (g_c : 0 ≤ c ∧ c ≤ 1) : e_Ok 20 elay kcode eI d 209 (0, [(0, (1, 0)), (1, (0, a)), (2, (0, b)), (3, (0, c))], [], w) (fun r w' => ∃ z : Int, r = [(0, z)] ∧ e_Has kTy w' ∧ (w' = w ∨ (w 0 13 = 0 ∧ e_fr kCn w w' ∧ bP w'))) := by
  obtain ⟨d, rfl⟩ : ∃ e, d = e + 1 := ⟨d - 1, by omega⟩
  have hw0 := e_Has.get hT (c := 0) (k := 11) (lo := 0) (hi := 4) rfl (by decide)
  refine e_Ok.run (t' := (1, [(0, (1, 0)), (1, (0, a)), (2, (0, b)), (3, (0, c))], [(0, a)], w)) 1 rfl ?_
  refine e_Ok.callS rfl (by omega) rfl rfl (c_245 (by omega) (by omega)) (fun r1 w2 h3 => ?_)
  obtain ⟨z4, rfl, rfl, q5⟩ := h3
  obtain ⟨rfl, q5⟩ | ⟨rfl, q5⟩ := q5
  · show e_Ok 20 elay kcode eI (d + 1) 209 (4, [(0, (1, 0)), (1, (0, a)), (2, (0, b)), (3, (0, c))], [(0, 1)], w) _
    refine e_Ok.if1 rfl (fun h6 => ?_) (fun h6 => ?_)
    · replace h6 : (1 : Int) = 0 := h6
      exfalso; omega
    · replace h6 : (1 : Int) ≠ 0 := by have q : ¬ ((1 : Int) = 0) := h6; omega
      refine e_Ok.run (t' := (8, [(0, (1, 0)), (1, (0, a)), (2, (0, b)), (3, (0, c))], [(0, b)], w)) 1 rfl ?_
      refine e_Ok.callS rfl (by omega) rfl rfl (c_245 (by omega) (by omega)) (fun r7 w8 h9 => ?_)
      obtain ⟨z10, rfl, rfl, q11⟩ := h9
      obtain ⟨rfl, q11⟩ | ⟨rfl, q11⟩ := q11
      · show e_Ok 20 elay kcode eI (d + 1) 209 (11, [(0, (1, 0)), (1, (0, a)), (2, (0, b)), (3, (0, c))], [(0, 1)], w) _
        refine e_Ok.if1 rfl (fun h12 => ?_) (fun h12 => ?_)
        · replace h12 : (1 : Int) ≠ 0 := h12
          refine e_Ok.run (t' := (17, [(0, (1, 0)), (1, (0, a)), (2, (0, b)), (3, (0, c))], [(1, 0)], w)) 1 rfl ?_
          refine e_Ok.getf (z := w 0 13) rfl (el_o rfl) rfl rfl rfl (by omega) ?_
          refine e_Ok.if1 rfl (fun h13 => ?_) (fun h13 => ?_)
          · replace h13 : (w 0 13 : Int) ≠ 0 := h13
            refine e_Ok.run (t' := (37, [(0, (1, 0)), (1, (0, a)), (2, (0, b)), (3, (0, c))], [(0, (-2))], w)) 1 rfl ?_
            refine e_Ok.rets rfl rfl ?_
            exact ⟨_, rfl, hT, Or.inl rfl⟩
          · replace h13 : (w 0 13 : Int) = 0 := by have q : ¬ ((w 0 13 : Int) ≠ 0) := h13; omega
            refine e_Ok.run (t' := (24, [(0, (1, 0)), (1, (0, a)), (2, (0, b)), (3, (0, c))], [(1, 0)], w)) 1 rfl ?_
            refine e_Ok.getr (z := 10) rfl (el_o rfl) rfl rfl (Eq.trans (e_Has.eq hT rfl) (by omega)) (by omega) ?_
            refine e_Ok.run (t' := (29, [(0, (1, 0)), (1, (0, a)), (2, (0, b)), (3, (0, c))], [(0, b), (0, a), (1, 10)], w)) 2 rfl ?_
            refine e_Ok.callV rfl (by omega) rfl rfl rfl rfl (c_111 hT (hA (by omega)) (by omega) (by omega)) (fun r14 w15 h16 => ?_)
            obtain ⟨z17, rfl, rfl, cr, cx⟩ := h16
            show e_Ok 20 elay kcode eI (d + 1) 209 (32, [(0, (1, 0)), (1, (0, a)), (2, (0, b)), (3, (0, c))], [(0, z17)], w) _
            refine e_Ok.if1 rfl (fun h18 => ?_) (fun h18 => ?_)
            · replace h18 : (z17 : Int) ≠ 0 := h18
              refine e_Ok.run (t' := (39, [(0, (1, 0)), (1, (0, a)), (2, (0, b)), (3, (0, c))], [(1, 0)], w)) 1 rfl ?_
              refine e_Ok.getr (z := 10) rfl (el_o rfl) rfl rfl (Eq.trans (e_Has.eq hT rfl) (by omega)) (by omega) ?_
              refine e_Ok.run (t' := (45, [(0, (1, 0)), (1, (0, a)), (2, (0, b)), (3, (0, c))], [(0, c), (0, b), (0, a), (1, 10)], w)) 3 rfl ?_
              refine e_Ok.callV rfl (by omega) rfl rfl rfl rfl (c_112 (by omega) hT (hA (by omega)) (by omega) (by omega) (by omega) (cx (by omega)).2) (fun r19 w20 h21 => ?_)
              obtain ⟨rfl, nf, nT, np⟩ := h21
              have f22 : e_fr kCn w w20 := e_fr.trans (e_fr.refl w) (e_fr.mono nf (fun c k q => by exact q))
              show e_Ok 20 elay kcode eI (d + 1) 209 (48, [(0, (1, 0)), (1, (0, a)), (2, (0, b)), (3, (0, c))], [], w20) _
              refine e_Ok.run (t' := (49, [(0, (1, 0)), (1, (0, a)), (2, (0, b)), (3, (0, c))], [(0, 0)], w20)) 1 rfl ?_
              refine e_Ok.rets rfl rfl ?_
              exact ⟨_, rfl, nT, Or.inr ⟨by omega, f22, np⟩⟩
            · replace h18 : (z17 : Int) = 0 := by have q : ¬ ((z17 : Int) ≠ 0) := h18; omega
              refine e_Ok.run (t' := (37, [(0, (1, 0)), (1, (0, a)), (2, (0, b)), (3, (0, c))], [(0, (-2))], w)) 1 rfl ?_
              refine e_Ok.rets rfl rfl ?_
              exact ⟨_, rfl, hT, Or.inl rfl⟩
        · replace h12 : (1 : Int) = 0 := by have q : ¬ ((1 : Int) ≠ 0) := h12; omega
          exfalso; omega
      · show e_Ok 20 elay kcode eI (d + 1) 209 (11, [(0, (1, 0)), (1, (0, a)), (2, (0, b)), (3, (0, c))], [(0, 0)], w) _
        refine e_Ok.if1 rfl (fun h23 => ?_) (fun h23 => ?_)
        · replace h23 : (0 : Int) ≠ 0 := h23
          exfalso; omega
        · replace h23 : (0 : Int) = 0 := by have q : ¬ ((0 : Int) ≠ 0) := h23; omega
          refine e_Ok.run (t' := (15, [(0, (1, 0)), (1, (0, a)), (2, (0, b)), (3, (0, c))], [(0, (-1))], w)) 1 rfl ?_
          refine e_Ok.rets rfl rfl ?_
          exact ⟨_, rfl, hT, Or.inl rfl⟩
  · show e_Ok 20 elay kcode eI (d + 1) 209 (4, [(0, (1, 0)), (1, (0, a)), (2, (0, b)), (3, (0, c))], [(0, 0)], w) _
    refine e_Ok.if1 rfl (fun h24 => ?_) (fun h24 => ?_)
    · replace h24 : (0 : Int) = 0 := h24
      refine e_Ok.run (t' := (15, [(0, (1, 0)), (1, (0, a)), (2, (0, b)), (3, (0, c))], [(0, (-1))], w)) 1 rfl ?_
      refine e_Ok.rets rfl rfl ?_
      exact ⟨_, rfl, hT, Or.inl rfl⟩
    · replace h24 : (0 : Int) ≠ 0 := by have q : ¬ ((0 : Int) = 0) := h24; omega
      exfalso; omega
set_option maxHeartbeats 4000000 in
theorem c_251 {d : Nat} (hd : 28 ≤ d) {w : eW} (hT : e_Has kTy w) (hC : ∀ a, 0 ≤ a → a ≤ 3 → isCd (w (17 * a + 86) 7)) (hR : isCd (w 1 3)) (hX : ∀ a, 0 ≤ a → a ≤ 3 → w (17 * a + 86) 7 ≠ w 1 3) (hD : ∀ a b, 0 ≤ a → a ≤ 3 → 0 ≤ b → b ≤ 3 → a ≠ b → w (17 * a + 86) 7 ≠ w (17 * b + 86) 7) : e_Ok 20 elay kcode eI d 251 (0, [(0, (1, 0))], [], w) (fun r w' => r = [] ∧ e_fr kCL w w' ∧ e_Has kTy w' ∧ w' 0 11 = 0 ∧ w' 0 12 = 0 ∧ w' 0 13 = 0 ∧ kBld w') := by
  obtain ⟨d, rfl⟩ : ∃ e, d = e + 1 := ⟨d - 1, by omega⟩
  refine e_Ok.run (t' := (2, [(0, (1, 0))], [(0, 0), (1, 0)], w)) 2 rfl ?_
  refine e_Ok.putf rfl (el_o rfl) rfl rfl ?_
  generalize hw1 : e_up w 0 11 0 = w1
  have f2 : e_fr kCL w w1 := e_fr.up (e_fr.refl w) hw1 (Or.inr (Or.inl (⟨rfl, by decide, by decide⟩)))
  have hT3 : e_Has kTy w1 := e_Has.upr hT hw1 rfl (by omega)
  refine e_Ok.run (t' := (7, [(0, (1, 0))], [(0, 0), (1, 0)], w1)) 2 rfl ?_
  refine e_Ok.putf rfl (el_o rfl) rfl rfl ?_
  generalize hw4 : e_up w1 0 12 0 = w4
  have f5 : e_fr kCL w w4 := e_fr.up f2 hw4 (Or.inr (Or.inl (⟨rfl, by decide, by decide⟩)))
  have hT6 : e_Has kTy w4 := e_Has.ups hT3 hw4 rfl
  refine e_Ok.run (t' := (12, [(0, (1, 0))], [(0, 0), (1, 0)], w4)) 2 rfl ?_
  refine e_Ok.putb rfl (el_o rfl) rfl rfl (by omega) ?_
  generalize hw7 : e_up w4 0 13 0 = w7
  have f8 : e_fr kCL w w7 := e_fr.up f5 hw7 (Or.inr (Or.inl (⟨rfl, by decide, by decide⟩)))
  have hT9 : e_Has kTy w7 := e_Has.ups hT6 hw7 rfl
  refine e_Ok.run (t' := (17, [(1, (0, 0)), (0, (1, 0))], [], w7)) 2 rfl ?_
  have hL10 : ∀ (nn : Nat) (y1 : Int) (v1 : eW), e_fr kCL w v1 ∧ e_Has kTy v1 ∧ (∀ a, 0 ≤ a → a < y1 → mK0 w v1 a) ∧ ((v1 0 11 = 0 ∧ v1 0 12 = 0 ∧ v1 0 13 = 0)) ∧ ((0 ≤ y1 ∧ y1 ≤ 4)) → 5 - y1 < nn → e_Ok 20 elay kcode eI (d + 1) 251 (17, [(0, (1, 0)), (1, (0, y1))], [], v1) (fun r w' => r = [] ∧ e_fr kCL w w' ∧ e_Has kTy w' ∧ w' 0 11 = 0 ∧ w' 0 12 = 0 ∧ w' 0 13 = 0 ∧ kBld w') := by
    intro nn
    induction nn with
    | zero => intro y1 v1 hj hm; obtain ⟨j12, j13, j14, j15, j16⟩ := hj; exfalso; omega
    | succ nn ih11 =>
      intro y1 v1 hj hm
      obtain ⟨j12, j13, j14, j15, j16⟩ := hj
      refine e_Ok.run (t' := (19, [(0, (1, 0)), (1, (0, y1))], [(0, 4), (0, y1)], v1)) 2 rfl ?_
      refine e_Ok.if2 rfl (fun h17 => ?_) (fun h17 => ?_)
      · replace h17 : (y1 : Int) ≥ 4 := h17
        have M0 : ∀ a, 0 ≤ a → a ≤ 3 → mK0 w v1 a := fun a g1 g2 => j14 a g1 (by omega)
        refine e_Ok.run (t' := (42, [(0, (1, 0)), (1, (0, y1))], [(1, 0)], v1)) 1 rfl ?_
        refine e_Ok.getr (z := 250) rfl (el_o rfl) rfl rfl ((j12 0 6 (by unfold kCL kNw; omega)).trans (Eq.trans (e_Has.eq hT rfl) (by omega))) (by omega) ?_
        refine e_Ok.run (t' := (46, [(0, (1, 0)), (1, (0, y1))], [(0, 0), (1, 250)], v1)) 1 rfl ?_
        refine e_Ok.putf rfl (el_o rfl) rfl rfl ?_
        generalize hw18 : e_up v1 250 0 0 = w18
        have f19 : e_fr kCL w w18 := e_fr.up j12 hw18 (Or.inr (Or.inr (Or.inr (Or.inr (Or.inr (Or.inr (Or.inr (Or.inr (Or.inr (Or.inl (⟨rfl, Or.inl rfl⟩)))))))))))
        have hT20 : e_Has kTy w18 := e_Has.upr j13 hw18 rfl (by omega)
        have g21 : e_fr (fun c k => c = 250 ∧ k = 0) v1 w18 := fun c k g => by have g2 : ¬ (c = 250 ∧ k = 0) := g; rw [← hw18]; exact e_up_ne _ _ (by omega)
        have M22 : ∀ a, 0 ≤ a → a ≤ 3 → mK0 w w18 a := fun a g1 g2 => mK0.fr ⟨g1, g2⟩ (hC a g1 g2) g21 (fun c k q => by omega) (M0 a g1 g2)
        refine e_Ok.run (t' := (50, [(0, (1, 0)), (1, (0, y1))], [(1, 0)], w18)) 1 rfl ?_
        refine e_Ok.getr (z := 250) rfl (el_o rfl) rfl rfl (by rw [← hw18]; exact (e_up_ne _ _ (Or.inl (by omega))).trans ((j12 0 6 (by unfold kCL kNw; omega)).trans (Eq.trans (e_Has.eq hT rfl) (by omega)))) (by omega) ?_
        refine e_Ok.run (t' := (54, [(0, (1, 0)), (1, (0, y1))], [(0, 0), (1, 250)], w18)) 1 rfl ?_
        refine e_Ok.putf rfl (el_o rfl) rfl rfl ?_
        generalize hw23 : e_up w18 250 1 0 = w23
        have f24 : e_fr kCL w w23 := e_fr.up f19 hw23 (Or.inr (Or.inr (Or.inr (Or.inr (Or.inr (Or.inr (Or.inr (Or.inr (Or.inr (Or.inl (⟨rfl, Or.inr rfl⟩)))))))))))
        have hT25 : e_Has kTy w23 := e_Has.upr hT20 hw23 rfl (by omega)
        have g26 : e_fr (fun c k => c = 250 ∧ k = 1) w18 w23 := fun c k g => by have g2 : ¬ (c = 250 ∧ k = 1) := g; rw [← hw23]; exact e_up_ne _ _ (by omega)
        have M27 : ∀ a, 0 ≤ a → a ≤ 3 → mK0 w w23 a := fun a g1 g2 => mK0.fr ⟨g1, g2⟩ (hC a g1 g2) g26 (fun c k q => by omega) (M22 a g1 g2)
        refine e_Ok.run (t' := (58, [(0, (1, 0)), (1, (0, y1))], [(1, 0)], w23)) 1 rfl ?_
        refine e_Ok.getr (z := 10) rfl (el_o rfl) rfl rfl (by rw [← hw23]; exact (e_up_ne _ _ (Or.inl (by omega))).trans (by rw [← hw18]; exact (e_up_ne _ _ (Or.inl (by omega))).trans ((j12 0 3 (by unfold kCL kNw; omega)).trans (Eq.trans (e_Has.eq hT rfl) (by omega))))) (by omega) ?_
        refine e_Ok.callV rfl (by omega) rfl rfl rfl rfl (c_109 (by omega) hT25) (fun r28 w29 h30 => ?_)
        obtain ⟨rfl, q31f, q31T, q31x⟩ := h30
        have f32 : e_fr kCL w w29 := e_fr.trans f24 (e_fr.mono q31f (fun c k q => by exact (by rcases q with q | q; exact Or.inr (Or.inr (Or.inr (Or.inr (Or.inl q)))); exact Or.inr (Or.inr (Or.inr (Or.inr (Or.inr (Or.inl q))))))))
        have M33 : ∀ a, 0 ≤ a → a ≤ 3 → mK0 w w29 a := fun a g1 g2 => mK0.fr ⟨g1, g2⟩ (hC a g1 g2) q31f (fun c k q => by unfold kPc at q; omega) (M27 a g1 g2)
        show e_Ok 20 elay kcode eI (d + 1) 251 (64, [(0, (1, 0)), (1, (0, y1))], [], w29) _
        refine e_Ok.run (t' := (65, [(0, (1, 0)), (1, (0, y1))], [(1, 0)], w29)) 1 rfl ?_
        refine e_Ok.getr (z := 19) rfl (el_o rfl) rfl rfl ((q31f 0 4 (by unfold kPc; omega)).trans (by rw [← hw23]; exact (e_up_ne _ _ (Or.inl (by omega))).trans (by rw [← hw18]; exact (e_up_ne _ _ (Or.inl (by omega))).trans ((j12 0 4 (by unfold kCL kNw; omega)).trans (Eq.trans (e_Has.eq hT rfl) (by omega)))))) (by omega) ?_
        refine e_Ok.run (t' := (69, [(0, (1, 0)), (1, (0, y1))], [(0, 0), (1, 19)], w29)) 1 rfl ?_
        refine e_Ok.putf rfl (el_o rfl) rfl rfl ?_
        generalize hw34 : e_up w29 19 0 0 = w34
        have f35 : e_fr kCL w w34 := e_fr.up f32 hw34 (Or.inr (Or.inr (Or.inr (Or.inr (Or.inr (Or.inr (Or.inl (⟨rfl, Or.inl rfl⟩))))))))
        have hT36 : e_Has kTy w34 := e_Has.upr q31T hw34 rfl (by omega)
        have g37 : e_fr (fun c k => c = 19 ∧ k = 0) w29 w34 := fun c k g => by have g2 : ¬ (c = 19 ∧ k = 0) := g; rw [← hw34]; exact e_up_ne _ _ (by omega)
        have M38 : ∀ a, 0 ≤ a → a ≤ 3 → mK0 w w34 a := fun a g1 g2 => mK0.fr ⟨g1, g2⟩ (hC a g1 g2) g37 (fun c k q => by omega) (M33 a g1 g2)
        have B40 : bP w34 := bP.eq q31T (fun c k g => g37 c k (by unfold dBp at g; omega)) q31x
        refine e_Ok.run (t' := (73, [(0, (1, 0)), (1, (0, y1))], [(1, 0)], w34)) 1 rfl ?_
        refine e_Ok.getr (z := 19) rfl (el_o rfl) rfl rfl (by rw [← hw34]; exact (e_up_ne _ _ (Or.inl (by omega))).trans ((q31f 0 4 (by unfold kPc; omega)).trans (by rw [← hw23]; exact (e_up_ne _ _ (Or.inl (by omega))).trans (by rw [← hw18]; exact (e_up_ne _ _ (Or.inl (by omega))).trans ((j12 0 4 (by unfold kCL kNw; omega)).trans (Eq.trans (e_Has.eq hT rfl) (by omega))))))) (by omega) ?_
        refine e_Ok.run (t' := (77, [(0, (1, 0)), (1, (0, y1))], [(0, 0), (1, 19)], w34)) 1 rfl ?_
        refine e_Ok.putf rfl (el_o rfl) rfl rfl ?_
        generalize hw41 : e_up w34 19 1 0 = w41
        have f42 : e_fr kCL w w41 := e_fr.up f35 hw41 (Or.inr (Or.inr (Or.inr (Or.inr (Or.inr (Or.inr (Or.inl (⟨rfl, Or.inr rfl⟩))))))))
        have hT43 : e_Has kTy w41 := e_Has.upr hT36 hw41 rfl (by omega)
        have g44 : e_fr (fun c k => c = 19 ∧ k = 1) w34 w41 := fun c k g => by have g2 : ¬ (c = 19 ∧ k = 1) := g; rw [← hw41]; exact e_up_ne _ _ (by omega)
        have M45 : ∀ a, 0 ≤ a → a ≤ 3 → mK0 w w41 a := fun a g1 g2 => mK0.fr ⟨g1, g2⟩ (hC a g1 g2) g44 (fun c k q => by omega) (M38 a g1 g2)
        have B46 : bP w41 := bP.eq hT36 (fun c k g => g44 c k (by unfold dBp at g; omega)) B40
        refine e_Ok.run (t' := (81, [(0, (1, 0)), (1, (0, y1))], [(1, 0)], w41)) 1 rfl ?_
        refine e_Ok.getr (z := 74) rfl (el_o rfl) rfl rfl (by rw [← hw41]; exact (e_up_ne _ _ (Or.inl (by omega))).trans (by rw [← hw34]; exact (e_up_ne _ _ (Or.inl (by omega))).trans ((q31f 0 5 (by unfold kPc; omega)).trans (by rw [← hw23]; exact (e_up_ne _ _ (Or.inl (by omega))).trans (by rw [← hw18]; exact (e_up_ne _ _ (Or.inl (by omega))).trans ((j12 0 5 (by unfold kCL kNw; omega)).trans (Eq.trans (e_Has.eq hT rfl) (by omega)))))))) (by omega) ?_
        refine e_Ok.callV rfl (by omega) rfl rfl rfl rfl (c_25 hT43) (fun r47 w48 h49 => ?_)
        obtain ⟨rfl, q50f, q50T⟩ := h49
        have f51 : e_fr kCL w w48 := e_fr.trans f42 (e_fr.mono q50f (fun c k q => by exact (by rcases q with q | q; exact Or.inr (Or.inr (Or.inr (Or.inr (Or.inr (Or.inr (Or.inr (Or.inl q))))))); exact Or.inr (Or.inr (Or.inr (Or.inr (Or.inr (Or.inr (Or.inr (Or.inr (Or.inl q)))))))))))
        have M52 : ∀ a, 0 ≤ a → a ≤ 3 → mK0 w w48 a := fun a g1 g2 => mK0.fr ⟨g1, g2⟩ (hC a g1 g2) q50f (fun c k q => by unfold kCc at q; omega) (M45 a g1 g2)
        have B53 : bP w48 := bP.eq hT43 (fun c k g => q50f c k (by unfold dBp at g; unfold kCc; omega)) B46
        show e_Ok 20 elay kcode eI (d + 1) 251 (87, [(0, (1, 0)), (1, (0, y1))], [], w48) _
        refine e_Ok.run (t' := (88, [(0, (1, 0)), (1, (0, y1))], [(1, 0)], w48)) 1 rfl ?_
        refine e_Ok.getr (z := 262) rfl (el_o rfl) rfl rfl ((q50f 0 7 (by unfold kCc; omega)).trans (by rw [← hw41]; exact (e_up_ne _ _ (Or.inl (by omega))).trans (by rw [← hw34]; exact (e_up_ne _ _ (Or.inl (by omega))).trans ((q31f 0 7 (by unfold kPc; omega)).trans (by rw [← hw23]; exact (e_up_ne _ _ (Or.inl (by omega))).trans (by rw [← hw18]; exact (e_up_ne _ _ (Or.inl (by omega))).trans ((j12 0 7 (by unfold kCL kNw; omega)).trans (Eq.trans (e_Has.eq hT rfl) (by omega))))))))) (by omega) ?_
        refine e_Ok.run (t' := (92, [(0, (1, 0)), (1, (0, y1))], [(0, 0), (1, 262)], w48)) 1 rfl ?_
        refine e_Ok.putf rfl (el_o rfl) rfl rfl ?_
        generalize hw54 : e_up w48 262 0 0 = w54
        have f55 : e_fr kCL w w54 := e_fr.up f51 hw54 (Or.inr (Or.inr (Or.inr (Or.inr (Or.inr (Or.inr (Or.inr (Or.inr (Or.inr (Or.inr (Or.inl (⟨rfl, rfl⟩))))))))))))
        have hT56 : e_Has kTy w54 := e_Has.ups q50T hw54 rfl
        have g57 : e_fr (fun c k => c = 262 ∧ k = 0) w48 w54 := fun c k g => by have g2 : ¬ (c = 262 ∧ k = 0) := g; rw [← hw54]; exact e_up_ne _ _ (by omega)
        have M58 : ∀ a, 0 ≤ a → a ≤ 3 → mK0 w w54 a := fun a g1 g2 => mK0.fr ⟨g1, g2⟩ (hC a g1 g2) g57 (fun c k q => by omega) (M52 a g1 g2)
        have B59 : bP w54 := bP.eq q50T (fun c k g => g57 c k (by unfold dBp at g; omega)) B53
        refine e_Ok.run (t' := (96, [(0, (1, 0)), (1, (0, y1))], [(1, 0)], w54)) 1 rfl ?_
        refine e_Ok.getr (z := 274) rfl (el_o rfl) rfl rfl (by rw [← hw54]; exact (e_up_ne _ _ (Or.inl (by omega))).trans ((q50f 0 10 (by unfold kCc; omega)).trans (by rw [← hw41]; exact (e_up_ne _ _ (Or.inl (by omega))).trans (by rw [← hw34]; exact (e_up_ne _ _ (Or.inl (by omega))).trans ((q31f 0 10 (by unfold kPc; omega)).trans (by rw [← hw23]; exact (e_up_ne _ _ (Or.inl (by omega))).trans (by rw [← hw18]; exact (e_up_ne _ _ (Or.inl (by omega))).trans ((j12 0 10 (by unfold kCL kNw; omega)).trans (Eq.trans (e_Has.eq hT rfl) (by omega)))))))))) (by omega) ?_
        refine e_Ok.run (t' := (100, [(0, (1, 0)), (1, (0, y1))], [(0, 0), (1, 274)], w54)) 1 rfl ?_
        refine e_Ok.callS rfl (by omega) rfl rfl (c_452_74 hT56) (fun r60 w61 h62 => ?_)
        obtain ⟨rfl, q63f, q63T, q63x⟩ := h62
        have f64 : e_fr kCL w w61 := e_fr.trans f55 (e_fr.mono q63f (fun c k q => by exact (Or.inr (Or.inr (Or.inr (Or.inr (Or.inr (Or.inr (Or.inr (Or.inr (Or.inr (Or.inr (Or.inr (q))))))))))))))
        have M65 : ∀ a, 0 ≤ a → a ≤ 3 → mK0 w w61 a := fun a g1 g2 => mK0.fr ⟨g1, g2⟩ (hC a g1 g2) q63f (fun c k q => by unfold kF74 at q; omega) (M58 a g1 g2)
        have B66 : bP w61 := bP.eq hT56 (fun c k g => q63f c k (by unfold dBp at g; unfold kF74; omega)) B59
        show e_Ok 20 elay kcode eI (d + 1) 251 (103, [(0, (1, 0)), (1, (0, y1))], [], w61) _
        refine e_Ok.run (t' := (104, [(0, (1, 0)), (1, (0, y1))], [(1, 0)], w61)) 1 rfl ?_
        have r19 : w61 19 1 = 0 := ((q63f 19 1 (by unfold kF74; omega)).trans (by rw [← hw54]; exact (e_up_ne _ _ (Or.inl (by omega))).trans ((q50f 19 1 (by unfold kCc; omega)).trans (by rw [← hw41]; exact e_up_eq _ _ _ _))))
        refine e_Ok.callV rfl (by omega) rfl rfl rfl rfl (c_252 (by omega) q63T (fun a g1 g2 => by have m := M65 a g1 g2; unfold mK0 at m; unfold kn1; omega) (fun p g1 g2 => by omega)) (fun r67 w68 h69 => ?_)
        obtain ⟨rfl, wf, wT, -, wr⟩ := h69
        have f70 : e_fr kCL w w68 := e_fr.trans f64 (e_fr.mono wf (fun c k q => by exact Or.inl q))
        have wM : ∀ a, 0 ≤ a → a ≤ 3 → mK0 w w68 a := fun a g1 g2 => (M65 a g1 g2).eq (wf _ _ (nw_a ⟨g1, g2⟩ (by omega))) (wf _ _ (nw_x ⟨g1, g2⟩).1) (wf _ _ (nw_x ⟨g1, g2⟩).2) (wf _ _ (nw_cd (hC a g1 g2))) (wf _ _ (nw_cd (hC a g1 g2)))
        have wB : bP w68 := bP.eq q63T (fun c k g => wf c k (by rcases g with rfl | rfl <;> (unfold kNw; omega))) B66
        show e_Ok 20 elay kcode eI (d + 1) 251 (107, [(0, (1, 0)), (1, (0, y1))], [], w68) _
        refine e_Ok.rets rfl rfl ?_
        have z11 : w68 0 11 = 0 := ((wf 0 11 (by unfold kNw; omega)).trans ((q63f 0 11 (by unfold kF74; omega)).trans (by rw [← hw54]; exact (e_up_ne _ _ (Or.inl (by omega))).trans ((q50f 0 11 (by unfold kCc; omega)).trans (by rw [← hw41]; exact (e_up_ne _ _ (Or.inl (by omega))).trans (by rw [← hw34]; exact (e_up_ne _ _ (Or.inl (by omega))).trans ((q31f 0 11 (by unfold kPc; omega)).trans (by rw [← hw23]; exact (e_up_ne _ _ (Or.inl (by omega))).trans (by rw [← hw18]; exact (e_up_ne _ _ (Or.inl (by omega))).trans j15.1)))))))))
        have z12 : w68 0 12 = 0 := ((wf 0 12 (by unfold kNw; omega)).trans ((q63f 0 12 (by unfold kF74; omega)).trans (by rw [← hw54]; exact (e_up_ne _ _ (Or.inl (by omega))).trans ((q50f 0 12 (by unfold kCc; omega)).trans (by rw [← hw41]; exact (e_up_ne _ _ (Or.inl (by omega))).trans (by rw [← hw34]; exact (e_up_ne _ _ (Or.inl (by omega))).trans ((q31f 0 12 (by unfold kPc; omega)).trans (by rw [← hw23]; exact (e_up_ne _ _ (Or.inl (by omega))).trans (by rw [← hw18]; exact (e_up_ne _ _ (Or.inl (by omega))).trans j15.2.1)))))))))
        have z13 : w68 0 13 = 0 := ((wf 0 13 (by unfold kNw; omega)).trans ((q63f 0 13 (by unfold kF74; omega)).trans (by rw [← hw54]; exact (e_up_ne _ _ (Or.inl (by omega))).trans ((q50f 0 13 (by unfold kCc; omega)).trans (by rw [← hw41]; exact (e_up_ne _ _ (Or.inl (by omega))).trans (by rw [← hw34]; exact (e_up_ne _ _ (Or.inl (by omega))).trans ((q31f 0 13 (by unfold kPc; omega)).trans (by rw [← hw23]; exact (e_up_ne _ _ (Or.inl (by omega))).trans (by rw [← hw18]; exact (e_up_ne _ _ (Or.inl (by omega))).trans j15.2.2)))))))))
        have z19 : w68 19 0 = 0 := ((wf 19 0 (by unfold kNw; omega)).trans ((q63f 19 0 (by unfold kF74; omega)).trans (by rw [← hw54]; exact (e_up_ne _ _ (Or.inl (by omega))).trans ((q50f 19 0 (by unfold kCc; omega)).trans (by rw [← hw41]; exact (e_up_ne _ _ (Or.inr (by omega))).trans (by rw [← hw34]; exact e_up_eq _ _ _ _))))))
        have z91 : w68 19 1 = 0 := ((wf 19 1 (by unfold kNw; omega)).trans ((q63f 19 1 (by unfold kF74; omega)).trans (by rw [← hw54]; exact (e_up_ne _ _ (Or.inl (by omega))).trans ((q50f 19 1 (by unfold kCc; omega)).trans (by rw [← hw41]; exact e_up_eq _ _ _ _)))))
        have z62 : w68 262 0 = 0 := ((wf 262 0 (by unfold kNw; omega)).trans ((q63f 262 0 (by unfold kF74; omega)).trans (by rw [← hw54]; exact e_up_eq _ _ _ _)))
        have z7 : ∀ a, 0 ≤ a → a ≤ 3 → w68 (17 * a + 86) 7 = w (17 * a + 86) 7 := fun a g1 g2 => f70 _ _ (cl_7 ⟨g1, g2⟩)
        have z3 : w68 1 3 = w 1 3 := f70 _ _ cl_13
        have kb : kBld w68 := by
          refine ⟨fun a g1 g2 => ?_, ⟨by rw [z3]; exact hR, fun a g1 g2 => ?_, fun a b g1 g2 g3 g4 g5 => by rw [z7 a g1 g2, z7 b g3 g4]; exact hD a b g1 g2 g3 g4 g5⟩, wB, ⟨fun p g1 g2 => by omega, by rw [z91]; exact ⟨fun b g1 g2 => by omega, fun p g1 g2 => by omega⟩⟩, z62⟩
          · have m := wM a g1 g2
            have ra := (wr.1 a g1 g2).1
            have r1 := ra.1
            unfold mK0 at m
            exact ⟨by unfold kn1; omega, by omega, ra.2.2.2.1, fun j k1 k2 => by omega⟩
          · have m := wM a g1 g2
            unfold mK0 at m
            rw [z7 a g1 g2, z3]
            exact ⟨codK.zero (hC a g1 g2) m.2.2.1 m.2.2.2, hX a g1 g2⟩
        exact ⟨rfl, f70, wT, z11, z12, z13, kb⟩
      · replace h17 : (y1 : Int) < 4 := by have q : ¬ ((y1 : Int) ≥ 4) := h17; omega
        refine e_Ok.run (t' := (23, [(0, (1, 0)), (1, (0, y1))], [(1, 0)], v1)) 1 rfl ?_
        refine e_Ok.getr (z := 9) rfl (el_o rfl) rfl rfl ((j12 0 2 (by unfold kCL kNw; omega)).trans (Eq.trans (e_Has.eq hT rfl) (by omega))) (by omega) ?_
        refine e_Ok.run (t' := (27, [(0, (1, 0)), (1, (0, y1))], [(0, y1), (1, 9)], v1)) 1 rfl ?_
        refine e_Ok.aald (z := 17 * y1 + 86) rfl (el_o rfl) rfl (by omega) ((j12 9 y1 (by unfold kCL kNw; omega)).trans (Eq.trans (e_Has.eq hT (k9 (by omega))) (by omega))) (by omega) ?_
        refine e_Ok.run (t' := (32, [(0, (1, 0)), (1, (0, y1))], [(0, 0), (0, 0), (0, 0), (0, 0), (1, 17 * y1 + 86)], v1)) 4 rfl ?_
        have hcy : v1 (17 * y1 + 86) 7 = w (17 * y1 + 86) 7 := j12 _ _ (cl_7 (by omega))
        refine e_Ok.callV rfl (by omega) rfl (lA0 (a := y1) (by omega) (by omega)) rfl rfl (c_1 (by omega) (a := y1) (cd := w (17 * y1 + 86) 7) j13 (by omega) hcy (hC y1 (by omega) (by omega)) (by omega) (by omega) (by omega) (by omega)) (fun r71 w72 h73 => ?_)
        obtain ⟨rfl, mf, mT, m8, mx, -, mc⟩ := h73
        have hcc := hC y1 (by omega) (by omega); unfold isCd at hcc
        have mF : e_fr kCL w w72 := e_fr.trans j12 (e_fr.mono mf (fun c k q => cl_mk (by omega) (hC y1 (by omega) (by omega)) q))
        show e_Ok 20 elay kcode eI (d + 1) 251 (35, [(0, (1, 0)), (1, (0, y1))], [], w72) _
        refine e_Ok.inc (z := y1 + 1) rfl rfl (by omega) (by omega) ?_
        show e_Ok 20 elay kcode eI (d + 1) 251 (38, [(1, (0, y1 + 1)), (0, (1, 0))], [], w72) _
        refine e_Ok.run (t' := (17, [(1, (0, y1 + 1)), (0, (1, 0))], [], w72)) 1 rfl ?_
        refine e_Ok.sub kAlk (e_sub_of rfl ?_) (ih11 (y1 + 1) w72 ⟨mF, mT, (fun a g1 g2 => by by_cases e : a = y1; (rw [e]; exact ⟨m8, mx, mc⟩); (have hd := hD a y1 (by omega) (by omega) (by omega) (by omega) e; have ha := hC a (by omega) (by omega); unfold isCd at ha; exact (j14 a g1 (by omega)).eq (mf _ _ (by unfold kMk; omega)) (mf _ _ (by unfold kMk; omega)) (mf _ _ (by unfold kMk; omega)) (mf _ _ (by unfold kMk; omega)) (mf _ _ (by unfold kMk; omega)))), ⟨(mf _ _ (by unfold kMk; omega)).trans j15.1, (mf _ _ (by unfold kMk; omega)).trans j15.2.1, (mf _ _ (by unfold kMk; omega)).trans j15.2.2⟩, (by omega)⟩ (by omega))
        exact ⟨rfl, rfl, trivial⟩
  refine e_Ok.sub kAlk (e_sub_of rfl ?_) (hL10 (5 + 1 : Int).toNat 0 w7 ⟨f8, hT9, (fun a g1 g2 => by omega), ⟨(by rw [← hw7]; exact (e_up_ne _ _ (Or.inr (by omega))).trans (by rw [← hw4]; exact (e_up_ne _ _ (Or.inr (by omega))).trans (by rw [← hw1]; exact e_up_eq _ _ _ _))), (by rw [← hw7]; exact (e_up_ne _ _ (Or.inr (by omega))).trans (by rw [← hw4]; exact e_up_eq _ _ _ _)), (by rw [← hw7]; exact e_up_eq _ _ _ _)⟩, (by omega)⟩ (by omega))
  exact ⟨rfl, rfl, trivial⟩
theorem c_192 {d : Nat} (hd : 30 ≤ d) {w : eW} (hT : e_Has kTy w) (hC : ∀ a, 0 ≤ a → a ≤ 3 → isCd (w (17 * a + 86) 7)) (hR : isCd (w 1 3)) (hX : ∀ a, 0 ≤ a → a ≤ 3 → w (17 * a + 86) 7 ≠ w 1 3) (hD : ∀ a b, 0 ≤ a → a ≤ 3 → 0 ≤ b → b ≤ 3 → a ≠ b → w (17 * a + 86) 7 ≠ w (17 * b + 86) 7) : e_Ok 20 elay kcode eI d 192 (0, [(0, (1, 0))], [], w) (fun r w' => ∃ z : Int, r = [(0, z)] ∧ e_fr kCL w w' ∧ e_Has kTy w' ∧ w' 0 11 = 0 ∧ w' 0 12 = 0 ∧ w' 0 13 = 0 ∧ kBld w') := by
  obtain ⟨d, rfl⟩ : ∃ e, d = e + 1 := ⟨d - 1, by omega⟩
  refine e_Ok.run (t' := (1, [(0, (1, 0))], [(1, 0)], w)) 1 rfl ?_
  refine e_Ok.getr (z := 74) rfl (el_o rfl) rfl rfl (Eq.trans (e_Has.eq hT rfl) (by omega)) (by omega) ?_
  have h1 := (e_Has.get hT (c := 74) (k := 0) (lo := 0) (hi := 6000) rfl (by decide))
  refine e_Ok.getf (z := w 74 0) rfl (el_o rfl) rfl rfl rfl (by omega) ?_
  refine e_Ok.run (t' := (9, [(1, (0, w 74 0)), (0, (1, 0))], [(1, 0)], w)) 2 rfl ?_
  refine e_Ok.callV rfl (by omega) rfl rfl rfl rfl (c_251 (by omega) hT hC hR hX hD) (fun r2 w3 h4 => ?_)
  obtain ⟨rfl, cf, cT, cx⟩ := h4
  show e_Ok 20 elay kcode eI (d + 1) 192 (12, [(1, (0, w 74 0)), (0, (1, 0))], [], w3) _
  refine e_Ok.run (t' := (13, [(1, (0, w 74 0)), (0, (1, 0))], [(0, w 74 0)], w3)) 1 rfl ?_
  refine e_Ok.rets rfl rfl ?_
  exact ⟨_, rfl, cf, cT, cx⟩
theorem c_196_r {d : Nat} (hd : 24 ≤ d) {w : eW} (hT : e_Has kTy w) (hO : 0 ≤ w 0 13 ∧ w 0 13 ≤ 1) {a : Int} (g_a : (-2147483648) ≤ a ∧ a ≤ 2147483647) {b : Int} (g_b : (-2147483648) ≤ b ∧ b ≤ 2147483647) {c : Int} (g_c : (-2147483648) ≤ c ∧ c ≤ 2147483647) : e_Ok 20 elay kcode eI d 196 (0, [(0, (1, 0)), (1, (0, a)), (2, (0, b)), (3, (0, c))], [], w) (fun r w' => ∃ z : Int, r = [(0, z)] ∧ e_Has kTy w' ∧ (w' = w ∨ (w 0 13 = 0 ∧ e_fr (kBr a b) w w' ∧ (0 ≤ a ∧ a < w 0 11) ∧ (0 ≤ b ∧ b < w (17 * a + 86) 8)))) := by
  obtain ⟨d, rfl⟩ : ∃ e, d = e + 1 := ⟨d - 1, by omega⟩
  have hw0 := e_Has.get hT (c := 0) (k := 11) (lo := 0) (hi := 4) rfl (by decide)
  have hb0 := e_Has.get hT (c := 19) (k := 0) (lo := 0) (hi := 4) rfl (by decide)
  have hz0 := e_Has.get hT (c := 250) (k := 1) (lo := 0) (hi := 8) rfl (by decide)
  refine e_Ok.run (t' := (3, [(0, (1, 0)), (1, (0, a)), (2, (0, b)), (3, (0, c))], [(0, b), (0, a), (1, 0)], w)) 3 rfl ?_
  refine e_Ok.callV rfl (by omega) rfl rfl rfl rfl (c_247 (by omega) hT (by omega) (by omega)) (fun r1 w2 h3 => ?_)
  obtain ⟨z4, rfl, rfl, q5⟩ := h3
  obtain ⟨rfl, q5⟩ | ⟨rfl, q5⟩ := q5
  · show e_Ok 20 elay kcode eI (d + 1) 196 (6, [(0, (1, 0)), (1, (0, a)), (2, (0, b)), (3, (0, c))], [(0, 1)], w) _
    refine e_Ok.if1 rfl (fun h6 => ?_) (fun h6 => ?_)
    · replace h6 : (1 : Int) = 0 := h6
      exfalso; omega
    · replace h6 : (1 : Int) ≠ 0 := by have q : ¬ ((1 : Int) = 0) := h6; omega
      have hjn := kn_joints hT (a := a) (by omega)
      refine e_Ok.run (t' := (14, [(0, (1, 0)), (1, (0, a)), (2, (0, b)), (3, (0, c))], [(0, 800), (0, 0), (0, c)], w)) 3 rfl ?_
      refine e_Ok.callS rfl (by omega) rfl rfl (c_242 (by omega) (by omega) (by omega)) (fun r7 w8 h9 => ?_)
      obtain ⟨z10, rfl, rfl, q11⟩ := h9
      obtain ⟨rfl, q11⟩ | ⟨rfl, q11⟩ := q11
      · show e_Ok 20 elay kcode eI (d + 1) 196 (17, [(0, (1, 0)), (1, (0, a)), (2, (0, b)), (3, (0, c))], [(0, 1)], w) _
        refine e_Ok.if1 rfl (fun h12 => ?_) (fun h12 => ?_)
        · replace h12 : (1 : Int) ≠ 0 := h12
          refine e_Ok.run (t' := (23, [(0, (1, 0)), (1, (0, a)), (2, (0, b)), (3, (0, c))], [(1, 0)], w)) 1 rfl ?_
          refine e_Ok.getf (z := w 0 13) rfl (el_o rfl) rfl rfl rfl (by omega) ?_
          refine e_Ok.if1 rfl (fun h13 => ?_) (fun h13 => ?_)
          · replace h13 : (w 0 13 : Int) = 0 := h13
            refine e_Ok.run (t' := (33, [(0, (1, 0)), (1, (0, a)), (2, (0, b)), (3, (0, c))], [(1, 0)], w)) 1 rfl ?_
            refine e_Ok.getr (z := 9) rfl (el_o rfl) rfl rfl (Eq.trans (e_Has.eq hT rfl) (by omega)) (by omega) ?_
            refine e_Ok.run (t' := (37, [(0, (1, 0)), (1, (0, a)), (2, (0, b)), (3, (0, c))], [(0, a), (1, 9)], w)) 1 rfl ?_
            refine e_Ok.aald (z := 17 * a + 86) rfl (el_o rfl) rfl (by omega) (Eq.trans (e_Has.eq hT (k9 (by omega))) (by omega)) (by omega) ?_
            refine e_Ok.getr (z := 17 * a + 87) rfl (lA0 (a := a) (by omega) (by omega)) rfl rfl (Eq.trans (e_Has.eq hT (kA_0 (a := a) (by omega) (by omega))) (by omega)) (by omega) ?_
            refine e_Ok.run (t' := (42, [(0, (1, 0)), (1, (0, a)), (2, (0, b)), (3, (0, c))], [(0, b), (1, 17 * a + 87)], w)) 1 rfl ?_
            refine e_Ok.aald (z := 17 * a + b + 97) rfl (lA1 (a := a) (by omega) (by omega)) rfl (by omega) (Eq.trans (e_Has.eq hT (kA87 (a := a) (by omega) (by omega) (by omega))) (by omega)) (by omega) ?_
            have h14 := (e_Has.get hT (c := 17 * a + b + 97) (k := 4) (lo := (-2147483648)) (hi := 2147483647) (kJ_4 (a := a) (j := b) (by omega) (by omega) (by omega)) (by decide))
            refine e_Ok.getf (z := w (17 * a + b + 97) 4) rfl (lJ (a := a) (j := b) (by omega) (by omega) (by omega)) rfl rfl rfl (by omega) ?_
            refine e_Ok.run (t' := (49, [(4, (0, w (17 * a + b + 97) 4)), (0, (1, 0)), (1, (0, a)), (2, (0, b)), (3, (0, c))], [(1, 0)], w)) 2 rfl ?_
            refine e_Ok.getr (z := 9) rfl (el_o rfl) rfl rfl (Eq.trans (e_Has.eq hT rfl) (by omega)) (by omega) ?_
            refine e_Ok.run (t' := (53, [(4, (0, w (17 * a + b + 97) 4)), (0, (1, 0)), (1, (0, a)), (2, (0, b)), (3, (0, c))], [(0, a), (1, 9)], w)) 1 rfl ?_
            refine e_Ok.aald (z := 17 * a + 86) rfl (el_o rfl) rfl (by omega) (Eq.trans (e_Has.eq hT (k9 (by omega))) (by omega)) (by omega) ?_
            refine e_Ok.getr (z := 17 * a + 87) rfl (lA0 (a := a) (by omega) (by omega)) rfl rfl (Eq.trans (e_Has.eq hT (kA_0 (a := a) (by omega) (by omega))) (by omega)) (by omega) ?_
            refine e_Ok.run (t' := (58, [(4, (0, w (17 * a + b + 97) 4)), (0, (1, 0)), (1, (0, a)), (2, (0, b)), (3, (0, c))], [(0, b), (1, 17 * a + 87)], w)) 1 rfl ?_
            refine e_Ok.aald (z := 17 * a + b + 97) rfl (lA1 (a := a) (by omega) (by omega)) rfl (by omega) (Eq.trans (e_Has.eq hT (kA87 (a := a) (by omega) (by omega) (by omega))) (by omega)) (by omega) ?_
            refine e_Ok.run (t' := (60, [(4, (0, w (17 * a + b + 97) 4)), (0, (1, 0)), (1, (0, a)), (2, (0, b)), (3, (0, c))], [(0, c), (1, 17 * a + b + 97)], w)) 1 rfl ?_
            refine e_Ok.putf rfl (lJ (a := a) (j := b) (by omega) (by omega) (by omega)) rfl rfl ?_
            generalize hw15 : e_up w (17 * a + b + 97) 4 c = w15
            have f16 : e_fr (kBr a b) w w15 := e_fr.up (e_fr.refl w) hw15 (by unfold kBr; omega)
            have hT17 : e_Has kTy w15 := e_Has.upr hT hw15 (kJ_4 (a := a) (j := b) (by omega) (by omega) (by omega)) (by omega)
            refine e_Ok.run (t' := (65, [(4, (0, w (17 * a + b + 97) 4)), (0, (1, 0)), (1, (0, a)), (2, (0, b)), (3, (0, c))], [(0, w (17 * a + b + 97) 4)], w15)) 1 rfl ?_
            refine e_Ok.rets rfl rfl ?_
            exact ⟨_, rfl, hT17, Or.inr ⟨by omega, f16, (show (0 ≤ a ∧ a < w 0 11) ∧ (0 ≤ b ∧ b < w (17 * a + 86) 8) from by omega)⟩⟩
          · replace h13 : (w 0 13 : Int) ≠ 0 := by have q : ¬ ((w 0 13 : Int) = 0) := h13; omega
            refine e_Ok.run (t' := (31, [(0, (1, 0)), (1, (0, a)), (2, (0, b)), (3, (0, c))], [(0, (-2))], w)) 1 rfl ?_
            refine e_Ok.rets rfl rfl ?_
            exact ⟨_, rfl, hT, Or.inl rfl⟩
        · replace h12 : (1 : Int) = 0 := by have q : ¬ ((1 : Int) ≠ 0) := h12; omega
          exfalso; omega
      · show e_Ok 20 elay kcode eI (d + 1) 196 (17, [(0, (1, 0)), (1, (0, a)), (2, (0, b)), (3, (0, c))], [(0, 0)], w) _
        refine e_Ok.if1 rfl (fun h18 => ?_) (fun h18 => ?_)
        · replace h18 : (0 : Int) ≠ 0 := h18
          exfalso; omega
        · replace h18 : (0 : Int) = 0 := by have q : ¬ ((0 : Int) ≠ 0) := h18; omega
          refine e_Ok.run (t' := (21, [(0, (1, 0)), (1, (0, a)), (2, (0, b)), (3, (0, c))], [(0, (-1))], w)) 1 rfl ?_
          refine e_Ok.rets rfl rfl ?_
          exact ⟨_, rfl, hT, Or.inl rfl⟩
  · show e_Ok 20 elay kcode eI (d + 1) 196 (6, [(0, (1, 0)), (1, (0, a)), (2, (0, b)), (3, (0, c))], [(0, 0)], w) _
    refine e_Ok.if1 rfl (fun h19 => ?_) (fun h19 => ?_)
    · replace h19 : (0 : Int) = 0 := h19
      refine e_Ok.run (t' := (21, [(0, (1, 0)), (1, (0, a)), (2, (0, b)), (3, (0, c))], [(0, (-1))], w)) 1 rfl ?_
      refine e_Ok.rets rfl rfl ?_
      exact ⟨_, rfl, hT, Or.inl rfl⟩
    · replace h19 : (0 : Int) ≠ 0 := by have q : ¬ ((0 : Int) = 0) := h19; omega
      exfalso; omega
theorem c_199_r {d : Nat} (hd : 24 ≤ d) {w : eW} (hT : e_Has kTy w) (hO : 0 ≤ w 0 13 ∧ w 0 13 ≤ 1) {a : Int} (g_a : (-2147483648) ≤ a ∧ a ≤ 2147483647) {b : Int} (g_b : (-2147483648) ≤ b ∧ b ≤ 2147483647) {c : Int} (g_c : (-2147483648) ≤ c ∧ c ≤ 2147483647) : e_Ok 20 elay kcode eI d 199 (0, [(0, (1, 0)), (1, (0, a)), (2, (0, b)), (3, (0, c))], [], w) (fun r w' => ∃ z : Int, r = [(0, z)] ∧ e_Has kTy w' ∧ (w' = w ∨ (w 0 13 = 0 ∧ e_fr (kSd a) w w' ∧ (0 ≤ a ∧ a < w 0 11)))) := by
  obtain ⟨d, rfl⟩ : ∃ e, d = e + 1 := ⟨d - 1, by omega⟩
  have hw0 := e_Has.get hT (c := 0) (k := 11) (lo := 0) (hi := 4) rfl (by decide)
  have hb0 := e_Has.get hT (c := 19) (k := 0) (lo := 0) (hi := 4) rfl (by decide)
  have hz0 := e_Has.get hT (c := 250) (k := 1) (lo := 0) (hi := 8) rfl (by decide)
  have hs0 := e_Has.get hT (c := 250) (k := 0) (lo := 0) (hi := 16) rfl (by decide)
  refine e_Ok.run (t' := (2, [(0, (1, 0)), (1, (0, a)), (2, (0, b)), (3, (0, c))], [(0, a), (1, 0)], w)) 2 rfl ?_
  refine e_Ok.callV rfl (by omega) rfl rfl rfl rfl (c_246 (by omega) hT (by omega)) (fun r1 w2 h3 => ?_)
  obtain ⟨z4, rfl, rfl, q5⟩ := h3
  obtain ⟨rfl, q5⟩ | ⟨rfl, q5⟩ := q5
  · show e_Ok 20 elay kcode eI (d + 1) 199 (5, [(0, (1, 0)), (1, (0, a)), (2, (0, b)), (3, (0, c))], [(0, 1)], w) _
    refine e_Ok.if1 rfl (fun h6 => ?_) (fun h6 => ?_)
    · replace h6 : (1 : Int) = 0 := h6
      exfalso; omega
    · replace h6 : (1 : Int) ≠ 0 := by have q : ¬ ((1 : Int) = 0) := h6; omega
      refine e_Ok.run (t' := (12, [(0, (1, 0)), (1, (0, a)), (2, (0, b)), (3, (0, c))], [(0, 6), (0, 0), (0, b)], w)) 3 rfl ?_
      refine e_Ok.callS rfl (by omega) rfl rfl (c_242 (by omega) (by omega) (by omega)) (fun r7 w8 h9 => ?_)
      obtain ⟨z10, rfl, rfl, q11⟩ := h9
      obtain ⟨rfl, q11⟩ | ⟨rfl, q11⟩ := q11
      · show e_Ok 20 elay kcode eI (d + 1) 199 (15, [(0, (1, 0)), (1, (0, a)), (2, (0, b)), (3, (0, c))], [(0, 1)], w) _
        refine e_Ok.if1 rfl (fun h12 => ?_) (fun h12 => ?_)
        · replace h12 : (1 : Int) ≠ 0 := h12
          refine e_Ok.run (t' := (23, [(0, (1, 0)), (1, (0, a)), (2, (0, b)), (3, (0, c))], [(1, 0), (0, 0), (0, c)], w)) 3 rfl ?_
          refine e_Ok.getr (z := 250) rfl (el_o rfl) rfl rfl (Eq.trans (e_Has.eq hT rfl) (by omega)) (by omega) ?_
          have h13 := (e_Has.get hT (c := 250) (k := 0) (lo := 0) (hi := 16) rfl (by decide))
          refine e_Ok.getf (z := w 250 0) rfl (el_o rfl) rfl rfl rfl (by omega) ?_
          refine e_Ok.run (t' := (30, [(0, (1, 0)), (1, (0, a)), (2, (0, b)), (3, (0, c))], [(0, 1), (0, w 250 0), (0, 0), (0, c)], w)) 1 rfl ?_
          refine e_Ok.sub' (z := w 250 0 - 1) rfl (by omega) (by omega) ?_
          refine e_Ok.callS rfl (by omega) rfl rfl (c_242 (by omega) (by omega) (by omega)) (fun r14 w15 h16 => ?_)
          obtain ⟨z17, rfl, rfl, q18⟩ := h16
          obtain ⟨rfl, q18⟩ | ⟨rfl, q18⟩ := q18
          · show e_Ok 20 elay kcode eI (d + 1) 199 (34, [(0, (1, 0)), (1, (0, a)), (2, (0, b)), (3, (0, c))], [(0, 1)], w) _
            refine e_Ok.if1 rfl (fun h19 => ?_) (fun h19 => ?_)
            · replace h19 : (1 : Int) ≠ 0 := h19
              refine e_Ok.run (t' := (40, [(0, (1, 0)), (1, (0, a)), (2, (0, b)), (3, (0, c))], [(1, 0)], w)) 1 rfl ?_
              refine e_Ok.getf (z := w 0 13) rfl (el_o rfl) rfl rfl rfl (by omega) ?_
              refine e_Ok.if1 rfl (fun h20 => ?_) (fun h20 => ?_)
              · replace h20 : (w 0 13 : Int) = 0 := h20
                refine e_Ok.run (t' := (50, [(0, (1, 0)), (1, (0, a)), (2, (0, b)), (3, (0, c))], [(1, 0)], w)) 1 rfl ?_
                refine e_Ok.getr (z := 9) rfl (el_o rfl) rfl rfl (Eq.trans (e_Has.eq hT rfl) (by omega)) (by omega) ?_
                refine e_Ok.run (t' := (54, [(0, (1, 0)), (1, (0, a)), (2, (0, b)), (3, (0, c))], [(0, a), (1, 9)], w)) 1 rfl ?_
                refine e_Ok.aald (z := 17 * a + 86) rfl (el_o rfl) rfl (by omega) (Eq.trans (e_Has.eq hT (k9 (by omega))) (by omega)) (by omega) ?_
                refine e_Ok.run (t' := (57, [(0, (1, 0)), (1, (0, a)), (2, (0, b)), (3, (0, c))], [(0, c), (0, b), (1, 17 * a + 86)], w)) 2 rfl ?_
                refine e_Ok.callV rfl (by omega) rfl (lA0 (a := a) (by omega) (by omega)) rfl rfl (c_6 (a := a) hT (by omega) (by omega) (by omega)) (fun r21 w22 h23 => ?_)
                obtain ⟨z25, rfl, rfl, q24r⟩ := h23
                show e_Ok 20 elay kcode eI (d + 1) 199 (60, [(0, (1, 0)), (1, (0, a)), (2, (0, b)), (3, (0, c))], [(0, z25)], w) _
                refine e_Ok.if1 rfl (fun h26 => ?_) (fun h26 => ?_)
                · replace h26 : (z25 : Int) = 0 := h26
                  refine e_Ok.run (t' := (66, [(0, (1, 0)), (1, (0, a)), (2, (0, b)), (3, (0, c))], [(1, 0)], w)) 1 rfl ?_
                  refine e_Ok.getr (z := 9) rfl (el_o rfl) rfl rfl (Eq.trans (e_Has.eq hT rfl) (by omega)) (by omega) ?_
                  refine e_Ok.run (t' := (70, [(0, (1, 0)), (1, (0, a)), (2, (0, b)), (3, (0, c))], [(0, a), (1, 9)], w)) 1 rfl ?_
                  refine e_Ok.aald (z := 17 * a + 86) rfl (el_o rfl) rfl (by omega) (Eq.trans (e_Has.eq hT (k9 (by omega))) (by omega)) (by omega) ?_
                  refine e_Ok.getr (z := 17 * a + 92) rfl (lA0 (a := a) (by omega) (by omega)) rfl rfl (Eq.trans (e_Has.eq hT (kA_5 (a := a) (by omega) (by omega))) (by omega)) (by omega) ?_
                  refine e_Ok.run (t' := (76, [(0, (1, 0)), (1, (0, a)), (2, (0, b)), (3, (0, c))], [(0, b), (1, 17 * a + 92), (0, b), (1, 17 * a + 92)], w)) 2 rfl ?_
                  have h27 := (e_Has.get hT (c := 17 * a + 92) (k := b) (lo := (-2147483648)) (hi := 2147483647) (kA92 (a := a) _ (by omega) (by omega)) (by decide))
                  refine e_Ok.ald (z := w (17 * a + 92) b) rfl (lA6 (a := a) (by omega) (by omega)) rfl (by omega) rfl (by omega) ?_
                  refine e_Ok.run (t' := (79, [(0, (1, 0)), (1, (0, a)), (2, (0, b)), (3, (0, c))], [(0, c), (0, 1), (0, w (17 * a + 92) b), (0, b), (1, 17 * a + 92)], w)) 2 rfl ?_
                  refine e_Ok.any rfl (eB_any _ _) (fun z28 z28a z28b => ?_)
                  refine e_Ok.any rfl (eB_any _ _) (fun z29 z29a z29b => ?_)
                  refine e_Ok.ast rfl (lA6 (a := a) (by omega) (by omega)) rfl rfl (by omega) ?_
                  generalize hw30 : e_up w (17 * a + 92) b z29 = w30
                  have f31 : e_fr (kSd a) w w30 := e_fr.up (e_fr.refl w) hw30 (by unfold kSd; omega)
                  have hT32 : e_Has kTy w30 := e_Has.upr hT hw30 (kA92 (a := a) _ (by omega) (by omega)) (by omega)
                  refine e_Ok.run (t' := (83, [(0, (1, 0)), (1, (0, a)), (2, (0, b)), (3, (0, c))], [(0, 1)], w30)) 1 rfl ?_
                  refine e_Ok.rets rfl rfl ?_
                  exact ⟨_, rfl, hT32, Or.inr ⟨by omega, f31, (show 0 ≤ a ∧ a < w 0 11 from by omega)⟩⟩
                · replace h26 : (z25 : Int) ≠ 0 := by have q : ¬ ((z25 : Int) = 0) := h26; omega
                  refine e_Ok.run (t' := (64, [(0, (1, 0)), (1, (0, a)), (2, (0, b)), (3, (0, c))], [(0, 0)], w)) 1 rfl ?_
                  refine e_Ok.rets rfl rfl ?_
                  exact ⟨_, rfl, hT, Or.inl rfl⟩
              · replace h20 : (w 0 13 : Int) ≠ 0 := by have q : ¬ ((w 0 13 : Int) = 0) := h20; omega
                refine e_Ok.run (t' := (48, [(0, (1, 0)), (1, (0, a)), (2, (0, b)), (3, (0, c))], [(0, (-2))], w)) 1 rfl ?_
                refine e_Ok.rets rfl rfl ?_
                exact ⟨_, rfl, hT, Or.inl rfl⟩
            · replace h19 : (1 : Int) = 0 := by have q : ¬ ((1 : Int) ≠ 0) := h19; omega
              exfalso; omega
          · show e_Ok 20 elay kcode eI (d + 1) 199 (34, [(0, (1, 0)), (1, (0, a)), (2, (0, b)), (3, (0, c))], [(0, 0)], w) _
            refine e_Ok.if1 rfl (fun h33 => ?_) (fun h33 => ?_)
            · replace h33 : (0 : Int) ≠ 0 := h33
              exfalso; omega
            · replace h33 : (0 : Int) = 0 := by have q : ¬ ((0 : Int) ≠ 0) := h33; omega
              refine e_Ok.run (t' := (38, [(0, (1, 0)), (1, (0, a)), (2, (0, b)), (3, (0, c))], [(0, (-1))], w)) 1 rfl ?_
              refine e_Ok.rets rfl rfl ?_
              exact ⟨_, rfl, hT, Or.inl rfl⟩
        · replace h12 : (1 : Int) = 0 := by have q : ¬ ((1 : Int) ≠ 0) := h12; omega
          exfalso; omega
      · show e_Ok 20 elay kcode eI (d + 1) 199 (15, [(0, (1, 0)), (1, (0, a)), (2, (0, b)), (3, (0, c))], [(0, 0)], w) _
        refine e_Ok.if1 rfl (fun h34 => ?_) (fun h34 => ?_)
        · replace h34 : (0 : Int) ≠ 0 := h34
          exfalso; omega
        · replace h34 : (0 : Int) = 0 := by have q : ¬ ((0 : Int) ≠ 0) := h34; omega
          refine e_Ok.run (t' := (19, [(0, (1, 0)), (1, (0, a)), (2, (0, b)), (3, (0, c))], [(0, (-1))], w)) 1 rfl ?_
          refine e_Ok.rets rfl rfl ?_
          exact ⟨_, rfl, hT, Or.inl rfl⟩
  · show e_Ok 20 elay kcode eI (d + 1) 199 (5, [(0, (1, 0)), (1, (0, a)), (2, (0, b)), (3, (0, c))], [(0, 0)], w) _
    refine e_Ok.if1 rfl (fun h35 => ?_) (fun h35 => ?_)
    · replace h35 : (0 : Int) = 0 := h35
      refine e_Ok.run (t' := (19, [(0, (1, 0)), (1, (0, a)), (2, (0, b)), (3, (0, c))], [(0, (-1))], w)) 1 rfl ?_
      refine e_Ok.rets rfl rfl ?_
      exact ⟨_, rfl, hT, Or.inl rfl⟩
    · replace h35 : (0 : Int) ≠ 0 := by have q : ¬ ((0 : Int) = 0) := h35; omega
      exfalso; omega
end
