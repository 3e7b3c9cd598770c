noncomputable section
/-! the class: what the doer does, acts -/
def kWf (t : Int) (c k : Int) : Prop := c = 6 * t + 154 ∧ (k = 1 ∨ k = 8 ∨ k = 9)
def kWu (t : Int) (c k : Int) : Prop := c = 6 * t + 154 ∧ (k = 1 ∨ k = 3)
def kTl (t : Int) (c k : Int) : Prop := (c = 8 ∧ 8 ≤ k ∧ k ≤ 11) ∨ c = 84 ∨ c = 83 ∨ (c = 6 * t + 154 ∧ (k = 1 ∨ k = 8 ∨ k = 9))
def kWt (t : Int) (c k : Int) : Prop := (c = 8 ∧ (k = 8 ∨ k = 10 ∨ k = 11)) ∨ c = 84 ∨ (c = 6 * t + 154 ∧ 11 ≤ k ∧ k ≤ 13)
def kGl (c k : Int) : Prop := c = 85
def kMb (t a : Int) (c k : Int) : Prop := (c = 8 ∧ (k = 8 ∨ k = 10 ∨ k = 11)) ∨ c = 84 ∨ (c = 17 * a + 86 ∧ 11 ≤ k ∧ k ≤ 13) ∨ (17 * a + 97 ≤ c ∧ c ≤ 17 * a + 102 ∧ (k = 9 ∨ k = 10)) ∨ (c = 6 * t + 154 ∧ k = 1)
def kGd (a : Int) (c k : Int) : Prop := (c = 8 ∧ (k = 8 ∨ k = 10 ∨ k = 11)) ∨ c = 84 ∨ (c = 74 ∧ (k = 1 ∨ k = 7)) ∨ c = 75 ∨ (31 ≤ c ∧ c ≤ 37) ∨ c = 39 ∨ c = 40 ∨ ((c = 86 ∨ c = 103 ∨ c = 120 ∨ c = 137) ∧ k = 19) ∨ (c = 17 * a + 86 ∧ (k = 14 ∨ k = 15))
theorem sK.eq {w w' : eW} (h : ∀ c k, (c = 8 ∧ (k = 8 ∨ k = 10 ∨ k = 11)) ∨ c = 84 → w' c k = w c k) (q : sK w) : sK w' :=
  q.fr (S := fun c k => ¬ ((c = 8 ∧ (k = 8 ∨ k = 10 ∨ k = 11)) ∨ c = 84)) (fun c k g => h c k (Classical.not_not.mp g)) (by omega) (fun k => by omega)
theorem th_kWf {t c k : Int} (g : kWf t c k) : kTh t c k := Or.inr (by unfold kWf at g; omega)
theorem th_kWu {t c k : Int} (g : kWu t c k) : kTh t c k := Or.inr (by unfold kWu at g; omega)
theorem th_kTl {t c k : Int} (g : kTl t c k) : kTh t c k := by
  unfold kTl at g
  rcases g with g | g | g | g
  · exact Or.inl (Or.inl g)
  · exact Or.inl (hm_kDs (Or.inr g))
  · exact Or.inl (hm_kLk g)
  · exact Or.inr (by omega)
theorem th_kWt {t c k : Int} (g : kWt t c k) : kTh t c k := by
  unfold kWt at g
  rcases g with g | g | g
  · exact Or.inl (hm_kDs (Or.inl g))
  · exact Or.inl (hm_kDs (Or.inr g))
  · exact Or.inr (by omega)
theorem th_kTk {t c k : Int} (g : kTk t c k) : kTh t c k := Or.inr g
theorem c_63 {d : Nat} {w : eW} (hT : e_Has kTy w) {t n : Int} (g_t : 0 ≤ t ∧ t ≤ 15) (g_n : (-2147483648) ≤ n ∧ n ≤ 2147483647) {OP OD CL : Int → Int → Int} {h : Int} (q : kI w OP OD CL h t) (hst : w (6 * t + 154) 1 = 1) : e_Ok 20 elay kcode eI d 63 (0, [(0, (1, 8)), (1, (1, 6 * t + 154)), (2, (0, n))], [], w) (fun r w' => r = [] ∧ e_fr (kWf t) w w' ∧ e_Has kTy w' ∧ (kI w' OP OD CL h t ∧ (w' (6 * t + 154) 1 = 1 ∨ w' (6 * t + 154) 1 = 3))) := by
  have h2 := e_Has.get hT (c := 6 * t + 154) (k := 2) (lo := -1) (hi := 3) (kT_2 (t := t) rfl (by omega)) (by decide)
  have hac := ((q.ts (t := t) (by omega) (by omega)).2 (by omega) (by omega)).1
  have hac0 := (q.ts (t := t) (by omega) (by omega)).1.1 (by omega) (by omega)
  refine e_Ok.run (t' := (1, [(0, (1, 8)), (1, (1, 6 * t + 154)), (2, (0, n))], [(0, n)], w)) 1 rfl ?_
  refine e_Ok.if1 rfl (fun h1 => ?_) (fun h1 => ?_)
  · replace h1 : (n : Int) > 0 := h1
    refine e_Ok.run (t' := (7, [(0, (1, 8)), (1, (1, 6 * t + 154)), (2, (0, n))], [(0, 3), (1, 6 * t + 154)], w)) 2 rfl ?_
    refine e_Ok.putf rfl (lT0 (t := t) (by omega) (by omega)) rfl rfl ?_
    generalize hw2 : e_up w (6 * t + 154) 1 3 = w2
    have f3 : e_fr (kWf t) w w2 := e_fr.up (e_fr.refl w) hw2 (by unfold kWf; omega)
    have hT4 : e_Has kTy w2 := e_Has.upr hT hw2 (kT_1 (t := t) (by omega) (by omega)) (by omega)
    refine e_Ok.run (t' := (12, [(0, (1, 8)), (1, (1, 6 * t + 154)), (2, (0, n))], [(0, n), (1, 6 * t + 154)], w2)) 2 rfl ?_
    refine e_Ok.putf rfl (lT0 (t := t) (by omega) (by omega)) rfl rfl ?_
    generalize hw5 : e_up w2 (6 * t + 154) 8 n = w5
    have f6 : e_fr (kWf t) w w5 := e_fr.up f3 hw5 (by unfold kWf; omega)
    have hT7 : e_Has kTy w5 := e_Has.ups hT4 hw5 (kT_8 (t := t) (by omega) (by omega))
    refine e_Ok.run (t' := (17, [(0, (1, 8)), (1, (1, 6 * t + 154)), (2, (0, n))], [(1, 8), (1, 6 * t + 154)], w5)) 2 rfl ?_
    refine e_Ok.getr (z := 74) rfl (el_o rfl) rfl rfl (by rw [← hw5]; exact (e_up_ne _ _ (Or.inr (by omega))).trans (by rw [← hw2]; exact (e_up_ne _ _ (Or.inr (by omega))).trans (Eq.trans (e_Has.eq hT rfl) (by omega)))) (by omega) ?_
    have h8 := (e_Has.get hT (c := 74) (k := 0) (lo := 0) (hi := 6000) rfl (by decide))
    refine e_Ok.getf (z := w 74 0) rfl (el_o rfl) rfl rfl (by rw [← hw5]; exact (e_up_ne _ _ (Or.inr (by omega))).trans (by rw [← hw2]; exact (e_up_ne _ _ (Or.inr (by omega))).trans rfl)) (by omega) ?_
    refine e_Ok.putf rfl (lT0 (t := t) (by omega) (by omega)) rfl rfl ?_
    generalize hw9 : e_up w5 (6 * t + 154) 9 (w 74 0) = w9
    have f10 : e_fr (kWf t) w w9 := e_fr.up f6 hw9 (by unfold kWf; omega)
    have hT11 : e_Has kTy w9 := e_Has.ups hT7 hw9 (kT_9 (t := t) (by omega) (by omega))
    refine e_Ok.rets rfl rfl ?_
    have e1 : w9 (6 * t + 154) 1 = 3 := (by rw [← hw9]; exact (e_up_ne _ _ (Or.inr (by omega))).trans (by rw [← hw5]; exact (e_up_ne _ _ (Or.inr (by omega))).trans (by rw [← hw2]; exact e_up_eq _ _ _ _)))
    have e2 : w9 (6 * t + 154) 2 = w (6 * t + 154) 2 := (by rw [← hw9]; exact (e_up_ne _ _ (Or.inr (by omega))).trans (by rw [← hw5]; exact (e_up_ne _ _ (Or.inr (by omega))).trans (by rw [← hw2]; exact (e_up_ne _ _ (Or.inr (by omega))).trans rfl)))
    have e8 : w9 (6 * t + 154) 8 = n := (by rw [← hw9]; exact (e_up_ne _ _ (Or.inr (by omega))).trans (by rw [← hw5]; exact e_up_eq _ _ _ _))
    have e9 : w9 (6 * t + 154) 9 = w 74 0 := (by rw [← hw9]; exact e_up_eq _ _ _ _)
    exact ⟨rfl, f10, hT11, ⟨kI.tg q hT11 (by omega) (e_fr.mono f10 (fun c k g => th_kWf g)) e2 (by omega) ⟨fun _ _ => by omega, fun _ => by rw [e8, e9]; unfold kn1; omega, fun g => by omega⟩ (fun _ _ => hac.eq (fun d k g => by rw [← hw9, e_up_ne _ _ (by omega), ← hw5, e_up_ne _ _ (by omega), ← hw2, e_up_ne _ _ (by omega)])), Or.inr e1⟩⟩
  · replace h1 : (n : Int) ≤ 0 := by have q : ¬ ((n : Int) > 0) := h1; omega
    refine e_Ok.rets rfl rfl ?_
    exact ⟨rfl, (e_fr.refl w), hT, ⟨q, Or.inl hst⟩⟩
theorem c_64 {d : Nat} {w : eW} (hT : e_Has kTy w) {t v n : Int} (g_t : 0 ≤ t ∧ t ≤ 15) (g_v : (-2147483648) ≤ v ∧ v ≤ 2147483647) (g_n : 0 ≤ n ∧ n ≤ 33554431) {OP OD CL : Int → Int → Int} {h : Int} (q : kI w OP OD CL h t) (hst : w (6 * t + 154) 1 = 1) : e_Ok 20 elay kcode eI d 64 (0, [(0, (1, 8)), (1, (1, 6 * t + 154)), (2, (0, v)), (3, (0, n))], [], w) (fun r w' => r = [] ∧ e_fr (kWu t) w w' ∧ e_Has kTy w' ∧ (kI w' OP OD CL h t ∧ ((w' (6 * t + 154) 1 = 1 ∧ w' (6 * t + 154) 3 = w (6 * t + 154) 3) ∨ (w' (6 * t + 154) 1 = 4 ∧ w' (6 * t + 154) 3 = n)))) := by
  have h2 := e_Has.get hT (c := 6 * t + 154) (k := 2) (lo := -1) (hi := 3) (kT_2 (t := t) rfl (by omega)) (by decide)
  have hac := ((q.ts (t := t) (by omega) (by omega)).2 (by omega) (by omega)).1
  have hac0 := (q.ts (t := t) (by omega) (by omega)).1.1 (by omega) (by omega)
  refine e_Ok.run (t' := (1, [(0, (1, 8)), (1, (1, 6 * t + 154)), (2, (0, v)), (3, (0, n))], [(0, v)], w)) 1 rfl ?_
  refine e_Ok.if1 rfl (fun h1 => ?_) (fun h1 => ?_)
  · replace h1 : (v : Int) = 0 := h1
    refine e_Ok.run (t' := (7, [(0, (1, 8)), (1, (1, 6 * t + 154)), (2, (0, v)), (3, (0, n))], [(0, 4), (1, 6 * t + 154)], w)) 2 rfl ?_
    refine e_Ok.putf rfl (lT0 (t := t) (by omega) (by omega)) rfl rfl ?_
    generalize hw2 : e_up w (6 * t + 154) 1 4 = w2
    have f3 : e_fr (kWu t) w w2 := e_fr.up (e_fr.refl w) hw2 (by unfold kWu; omega)
    have hT4 : e_Has kTy w2 := e_Has.upr hT hw2 (kT_1 (t := t) (by omega) (by omega)) (by omega)
    refine e_Ok.run (t' := (12, [(0, (1, 8)), (1, (1, 6 * t + 154)), (2, (0, v)), (3, (0, n))], [(0, n), (1, 6 * t + 154)], w2)) 2 rfl ?_
    refine e_Ok.putf rfl (lT0 (t := t) (by omega) (by omega)) rfl rfl ?_
    generalize hw5 : e_up w2 (6 * t + 154) 3 n = w5
    have f6 : e_fr (kWu t) w w5 := e_fr.up f3 hw5 (by unfold kWu; omega)
    have hT7 : e_Has kTy w5 := e_Has.upr hT4 hw5 (kT_3 (t := t) (by omega) (by omega)) (by omega)
    refine e_Ok.rets rfl rfl ?_
    have e1 : w5 (6 * t + 154) 1 = 4 := (by rw [← hw5]; exact (e_up_ne _ _ (Or.inr (by omega))).trans (by rw [← hw2]; exact e_up_eq _ _ _ _))
    have e2 : w5 (6 * t + 154) 2 = w (6 * t + 154) 2 := (by rw [← hw5]; exact (e_up_ne _ _ (Or.inr (by omega))).trans (by rw [← hw2]; exact (e_up_ne _ _ (Or.inr (by omega))).trans rfl))
    have e3 : w5 (6 * t + 154) 3 = n := (by rw [← hw5]; exact e_up_eq _ _ _ _)
    exact ⟨rfl, f6, hT7, ⟨kI.tg q hT7 (by omega) (e_fr.mono f6 (fun c k g => th_kWu g)) e2 (by omega) ⟨fun _ _ => by omega, fun g => by omega, fun g => by omega⟩ (fun _ _ => hac.eq (fun d k g => by rw [← hw5, e_up_ne _ _ (by omega), ← hw2, e_up_ne _ _ (by omega)])), Or.inr ⟨e1, e3⟩⟩⟩
  · replace h1 : (v : Int) ≠ 0 := by have q : ¬ ((v : Int) = 0) := h1; omega
    refine e_Ok.rets rfl rfl ?_
    exact ⟨rfl, (e_fr.refl w), hT, ⟨q, Or.inl ⟨hst, rfl⟩⟩⟩
theorem c_66 {d : Nat} (hd : 21 ≤ d) {w : eW} (hT : e_Has kTy w) {t l : Int} (g_t : 0 ≤ t ∧ t ≤ 15) (g_l : (-2147483648) ≤ l ∧ l ≤ 2147483647) {OP OD CL : Int → Int → Int} {h : Int} (q : kI w OP OD CL h t) (hk : sK w) (hst : w (6 * t + 154) 1 = 1) : e_Ok 20 elay kcode eI d 66 (0, [(0, (1, 8)), (1, (1, 6 * t + 154)), (2, (0, l))], [], w) (fun r w' => r = [] ∧ e_fr (kTl t) w w' ∧ e_Has kTy w' ∧ (kI w' OP OD CL h t ∧ sK w' ∧ (w' (6 * t + 154) 1 = 1 ∨ w' (6 * t + 154) 1 = 5))) := by
  obtain ⟨d, rfl⟩ : ∃ e, d = e + 1 := ⟨d - 1, by omega⟩
  have h2 := e_Has.get hT (c := 6 * t + 154) (k := 2) (lo := -1) (hi := 3) (kT_2 (t := t) rfl (by omega)) (by decide)
  have hac := ((q.ts (t := t) (by omega) (by omega)).2 (by omega) (by omega)).1
  have hac0 := (q.ts (t := t) (by omega) (by omega)).1.1 (by omega) (by omega)
  refine e_Ok.run (t' := (4, [(0, (1, 8)), (1, (1, 6 * t + 154)), (2, (0, l))], [(0, 7), (0, 0), (0, l)], w)) 3 rfl ?_
  refine e_Ok.callS rfl (by omega) rfl rfl (c_242 (by omega) (by omega) (by omega)) (fun r1 w2 h3 => ?_)
  obtain ⟨z4, rfl, rfl, q5⟩ := h3
  obtain ⟨rfl, q5⟩ | ⟨rfl, q5⟩ := q5
  · show e_Ok 20 elay kcode eI (d + 1) 66 (7, [(0, (1, 8)), (1, (1, 6 * t + 154)), (2, (0, l))], [(0, 1)], w) _
    refine e_Ok.if1 rfl (fun h6 => ?_) (fun h6 => ?_)
    · replace h6 : (1 : Int) ≠ 0 := h6
      refine e_Ok.run (t' := (19, [(0, (1, 8)), (1, (1, 6 * t + 154)), (2, (0, l))], [(1, 8)], w)) 1 rfl ?_
      refine e_Ok.getr (z := 83) rfl (el_o rfl) rfl rfl (Eq.trans (e_Has.eq hT rfl) (by omega)) (by omega) ?_
      refine e_Ok.run (t' := (23, [(0, (1, 8)), (1, (1, 6 * t + 154)), (2, (0, l))], [(0, l), (1, 83)], w)) 1 rfl ?_
      have h7 := (e_Has.get hT (c := 83) (k := l) (lo := (-1)) (hi := 15) rfl (by decide))
      refine e_Ok.ald (z := w 83 l) rfl (el_o rfl) rfl (by omega) rfl (by omega) ?_
      refine e_Ok.run (t' := (25, [(0, (1, 8)), (1, (1, 6 * t + 154)), (2, (0, l))], [(1, 6 * t + 154), (0, w 83 l)], w)) 1 rfl ?_
      refine e_Ok.getf (z := t) rfl (lT0 (t := t) (by omega) (by omega)) rfl rfl (Eq.trans (e_Has.eq hT (kT_0 (t := t) (by omega) (by omega))) (by omega)) (by omega) ?_
      refine e_Ok.if2 rfl (fun h8 => ?_) (fun h8 => ?_)
      · replace h8 : (w 83 l : Int) ≠ t := h8
        refine e_Ok.run (t' := (41, [(0, (1, 8)), (1, (1, 6 * t + 154)), (2, (0, l))], [(1, 8)], w)) 1 rfl ?_
        refine e_Ok.getr (z := 83) rfl (el_o rfl) rfl rfl (Eq.trans (e_Has.eq hT rfl) (by omega)) (by omega) ?_
        refine e_Ok.run (t' := (45, [(0, (1, 8)), (1, (1, 6 * t + 154)), (2, (0, l))], [(0, l), (1, 83)], w)) 1 rfl ?_
        refine e_Ok.ald (z := w 83 l) rfl (el_o rfl) rfl (by omega) rfl (by omega) ?_
        refine e_Ok.if1 rfl (fun h9 => ?_) (fun h9 => ?_)
        · replace h9 : (w 83 l : Int) ≥ 0 := h9
          refine e_Ok.run (t' := (64, [(0, (1, 8)), (1, (1, 6 * t + 154)), (2, (0, l))], [(0, 5), (1, 6 * t + 154)], w)) 2 rfl ?_
          refine e_Ok.putf rfl (lT0 (t := t) (by omega) (by omega)) rfl rfl ?_
          generalize hw10 : e_up w (6 * t + 154) 1 5 = w10
          have f11 : e_fr (kTl t) w w10 := e_fr.up (e_fr.refl w) hw10 (by unfold kTl; omega)
          have hT12 : e_Has kTy w10 := e_Has.upr hT hw10 (kT_1 (t := t) (by omega) (by omega)) (by omega)
          refine e_Ok.run (t' := (69, [(0, (1, 8)), (1, (1, 6 * t + 154)), (2, (0, l))], [(0, l), (1, 6 * t + 154)], w10)) 2 rfl ?_
          refine e_Ok.putf rfl (lT0 (t := t) (by omega) (by omega)) rfl rfl ?_
          generalize hw13 : e_up w10 (6 * t + 154) 8 l = w13
          have f14 : e_fr (kTl t) w w13 := e_fr.up f11 hw13 (by unfold kTl; omega)
          have hT15 : e_Has kTy w13 := e_Has.ups hT12 hw13 (kT_8 (t := t) (by omega) (by omega))
          refine e_Ok.run (t' := (74, [(0, (1, 8)), (1, (1, 6 * t + 154)), (2, (0, l))], [(1, 8), (1, 6 * t + 154)], w13)) 2 rfl ?_
          have h16 := (e_Has.get hT (c := 8) (k := 9) (lo := (-2147483648)) (hi := 2147483647) rfl (by decide))
          refine e_Ok.getf (z := w 8 9) rfl (el_o rfl) rfl rfl (by rw [← hw13]; exact (e_up_ne _ _ (Or.inr (by omega))).trans (by rw [← hw10]; exact (e_up_ne _ _ (Or.inr (by omega))).trans rfl)) (by omega) ?_
          refine e_Ok.putf rfl (lT0 (t := t) (by omega) (by omega)) rfl rfl ?_
          generalize hw17 : e_up w13 (6 * t + 154) 9 (w 8 9) = w17
          have f18 : e_fr (kTl t) w w17 := e_fr.up f14 hw17 (by unfold kTl; omega)
          have hT19 : e_Has kTy w17 := e_Has.ups hT15 hw17 (kT_9 (t := t) (by omega) (by omega))
          refine e_Ok.run (t' := (82, [(0, (1, 8)), (1, (1, 6 * t + 154)), (2, (0, l))], [(1, 8), (1, 8)], w17)) 2 rfl ?_
          refine e_Ok.getf (z := w 8 9) rfl (el_o rfl) rfl rfl (by rw [← hw17]; exact (e_up_ne _ _ (Or.inl (by omega))).trans (by rw [← hw13]; exact (e_up_ne _ _ (Or.inr (by omega))).trans (by rw [← hw10]; exact (e_up_ne _ _ (Or.inr (by omega))).trans rfl))) (by omega) ?_
          refine e_Ok.run (t' := (86, [(0, (1, 8)), (1, (1, 6 * t + 154)), (2, (0, l))], [(0, 1), (0, w 8 9), (1, 8)], w17)) 1 rfl ?_
          refine e_Ok.any rfl (eF_add_any _ _) (fun z20 z20a z20b => ?_)
          refine e_Ok.putf rfl (el_o rfl) rfl rfl ?_
          generalize hw21 : e_up w17 8 9 z20 = w21
          have f22 : e_fr (kTl t) w w21 := e_fr.up f18 hw21 (by unfold kTl; omega)
          have hT23 : e_Has kTy w21 := e_Has.upr hT19 hw21 rfl (by omega)
          refine e_Ok.rets rfl rfl ?_
          have e1 : w21 (6 * t + 154) 1 = 5 := (by rw [← hw21]; exact (e_up_ne _ _ (Or.inr (by omega))).trans (by rw [← hw17]; exact (e_up_ne _ _ (Or.inr (by omega))).trans (by rw [← hw13]; exact (e_up_ne _ _ (Or.inr (by omega))).trans (by rw [← hw10]; exact e_up_eq _ _ _ _))))
          have e2 : w21 (6 * t + 154) 2 = w (6 * t + 154) 2 := (by rw [← hw21]; exact (e_up_ne _ _ (Or.inr (by omega))).trans (by rw [← hw17]; exact (e_up_ne _ _ (Or.inr (by omega))).trans (by rw [← hw13]; exact (e_up_ne _ _ (Or.inr (by omega))).trans (by rw [← hw10]; exact (e_up_ne _ _ (Or.inr (by omega))).trans rfl))))
          have e8 : w21 (6 * t + 154) 8 = l := (by rw [← hw21]; exact (e_up_ne _ _ (Or.inr (by omega))).trans (by rw [← hw17]; exact (e_up_ne _ _ (Or.inr (by omega))).trans (by rw [← hw13]; exact e_up_eq _ _ _ _)))
          have e9 : w21 (6 * t + 154) 9 = w 8 9 := (by rw [← hw21]; exact (e_up_ne _ _ (Or.inl (by omega))).trans (by rw [← hw17]; exact e_up_eq _ _ _ _))
          exact ⟨rfl, f22, hT23, ⟨kI.tg q hT23 (by omega) (e_fr.mono f22 (fun c k g => th_kTl g)) e2 (by omega) ⟨fun _ _ => by omega, fun g => by omega, fun _ => by rw [e8, e9]; unfold kn1; omega⟩ (fun _ _ => hac.eq (fun d k g => by rw [← hw21, e_up_ne _ _ (by omega), ← hw17, e_up_ne _ _ (by omega), ← hw13, e_up_ne _ _ (by omega), ← hw10, e_up_ne _ _ (by omega)])), (sK.eq (fun c k g => by rw [← hw21, e_up_ne _ _ (by omega), ← hw17, e_up_ne _ _ (by omega), ← hw13, e_up_ne _ _ (by omega), ← hw10, e_up_ne _ _ (by omega)]) hk), Or.inr e1⟩⟩
        · replace h9 : (w 83 l : Int) < 0 := by have q : ¬ ((w 83 l : Int) ≥ 0) := h9; omega
          refine e_Ok.run (t' := (50, [(0, (1, 8)), (1, (1, 6 * t + 154)), (2, (0, l))], [(1, 8)], w)) 1 rfl ?_
          refine e_Ok.getr (z := 83) rfl (el_o rfl) rfl rfl (Eq.trans (e_Has.eq hT rfl) (by omega)) (by omega) ?_
          refine e_Ok.run (t' := (55, [(0, (1, 8)), (1, (1, 6 * t + 154)), (2, (0, l))], [(1, 6 * t + 154), (0, l), (1, 83)], w)) 2 rfl ?_
          refine e_Ok.getf (z := t) rfl (lT0 (t := t) (by omega) (by omega)) rfl rfl (Eq.trans (e_Has.eq hT (kT_0 (t := t) (by omega) (by omega))) (by omega)) (by omega) ?_
          refine e_Ok.ast rfl (el_o rfl) rfl rfl (by omega) ?_
          generalize hw24 : e_up w 83 l t = w24
          have f25 : e_fr (kTl t) w w24 := e_fr.up (e_fr.refl w) hw24 (by unfold kTl; omega)
          have hT26 : e_Has kTy w24 := e_Has.upr hT hw24 rfl (by omega)
          refine e_Ok.run (t' := (90, [(0, (1, 8)), (1, (1, 6 * t + 154)), (2, (0, l))], [], w24)) 1 rfl ?_
          refine e_Ok.rets rfl rfl ?_
          have e1 : w24 (6 * t + 154) 1 = w (6 * t + 154) 1 := (by rw [← hw24]; exact (e_up_ne _ _ (Or.inl (by omega))).trans rfl)
          have e2 : w24 (6 * t + 154) 2 = w (6 * t + 154) 2 := (by rw [← hw24]; exact (e_up_ne _ _ (Or.inl (by omega))).trans rfl)
          exact ⟨rfl, f25, hT26, ⟨kI.hm q hT26 (fun c k g => by rw [← hw24]; exact e_up_ne _ _ (Or.inl (fun g2 => g (hm_kLk g2)))), (sK.eq (fun c k g => by rw [← hw24, e_up_ne _ _ (by omega)]) hk), Or.inl (e1.trans hst)⟩⟩
      · replace h8 : (w 83 l : Int) = t := by have q : ¬ ((w 83 l : Int) ≠ t) := h8; omega
        refine e_Ok.run (t' := (34, [(0, (1, 8)), (1, (1, 6 * t + 154)), (2, (0, l))], [(0, 9), (1, 8)], w)) 2 rfl ?_
        refine e_Ok.callV rfl (by omega) rfl rfl rfl rfl (c_46 hT (by omega) hk) (fun r27 w28 h29 => ?_)
        obtain ⟨rfl, q30f, q30T, q30x⟩ := h29
        have f31 : e_fr (kTl t) w w28 := e_fr.trans (e_fr.refl w) (e_fr.mono q30f (fun c k q => by unfold kDs at q; unfold kTl; omega))
        have Q32 := kI.hm q q30T (e_fr.mono q30f (fun c k g => hm_kDs g))
        show e_Ok 20 elay kcode eI (d + 1) 66 (37, [(0, (1, 8)), (1, (1, 6 * t + 154)), (2, (0, l))], [], w28) _
        refine e_Ok.run (t' := (90, [(0, (1, 8)), (1, (1, 6 * t + 154)), (2, (0, l))], [], w28)) 1 rfl ?_
        refine e_Ok.rets rfl rfl ?_
        exact ⟨rfl, f31, q30T, ⟨Q32, q30x, Or.inl (by rw [q30f _ _ (by unfold kDs; omega)]; exact hst)⟩⟩
    · replace h6 : (1 : Int) = 0 := by have q : ¬ ((1 : Int) ≠ 0) := h6; omega
      exfalso; omega
  · show e_Ok 20 elay kcode eI (d + 1) 66 (7, [(0, (1, 8)), (1, (1, 6 * t + 154)), (2, (0, l))], [(0, 0)], w) _
    refine e_Ok.if1 rfl (fun h33 => ?_) (fun h33 => ?_)
    · replace h33 : (0 : Int) ≠ 0 := h33
      exfalso; omega
    · replace h33 : (0 : Int) = 0 := by have q : ¬ ((0 : Int) ≠ 0) := h33; omega
      refine e_Ok.run (t' := (12, [(0, (1, 8)), (1, (1, 6 * t + 154)), (2, (0, l))], [(0, 2), (1, 8)], w)) 2 rfl ?_
      refine e_Ok.callV rfl (by omega) rfl rfl rfl rfl (c_46 hT (by omega) hk) (fun r34 w35 h36 => ?_)
      obtain ⟨rfl, q37f, q37T, q37x⟩ := h36
      have f38 : e_fr (kTl t) w w35 := e_fr.trans (e_fr.refl w) (e_fr.mono q37f (fun c k q => by unfold kDs at q; unfold kTl; omega))
      have Q40 := kI.hm q q37T (e_fr.mono q37f (fun c k g => hm_kDs g))
      show e_Ok 20 elay kcode eI (d + 1) 66 (15, [(0, (1, 8)), (1, (1, 6 * t + 154)), (2, (0, l))], [], w35) _
      refine e_Ok.run (t' := (90, [(0, (1, 8)), (1, (1, 6 * t + 154)), (2, (0, l))], [], w35)) 1 rfl ?_
      refine e_Ok.rets rfl rfl ?_
      exact ⟨rfl, f38, q37T, ⟨Q40, q37x, Or.inl (by rw [q37f _ _ (by unfold kDs; omega)]; exact hst)⟩⟩
theorem c_70 {d : Nat} (hd : 21 ≤ d) {w : eW} (hT : e_Has kTy w) {t p n : Int} (g_t : 0 ≤ t ∧ t ≤ 15) (g_p : (-2147483648) ≤ p ∧ p ≤ 2147483647) (g_n : 0 ≤ n ∧ n ≤ 33554431) {OP OD CL : Int → Int → Int} {h : Int} (q : kI w OP OD CL h t) (hk : sK w) (hst : w (6 * t + 154) 1 = 1) (hn : n < w (w (17 * w (6 * t + 154) 2 + 86) 7) 1) : e_Ok 20 elay kcode eI d 70 (0, [(0, (1, 8)), (1, (1, 6 * t + 154)), (2, (0, p)), (3, (0, n))], [], w) (fun r w' => r = [] ∧ e_fr (kWt t) w w' ∧ e_Has kTy w' ∧ (kI w' OP OD CL h t ∧ sK w')) := by
  obtain ⟨d, rfl⟩ : ∃ e, d = e + 1 := ⟨d - 1, by omega⟩
  have h2 := e_Has.get hT (c := 6 * t + 154) (k := 2) (lo := -1) (hi := 3) (kT_2 (t := t) rfl (by omega)) (by decide)
  have hac := ((q.ts (t := t) (by omega) (by omega)).2 (by omega) (by omega)).1
  have hac0 := (q.ts (t := t) (by omega) (by omega)).1.1 (by omega) (by omega)
  refine e_Ok.run (t' := (4, [(0, (1, 8)), (1, (1, 6 * t + 154)), (2, (0, p)), (3, (0, n))], [(0, 63), (0, (-1)), (0, p)], w)) 3 rfl ?_
  refine e_Ok.callS rfl (by omega) rfl rfl (c_242 (by omega) (by omega) (by omega)) (fun r1 w2 h3 => ?_)
  obtain ⟨z4, rfl, rfl, q5⟩ := h3
  obtain ⟨rfl, q5⟩ | ⟨rfl, q5⟩ := q5
  · show e_Ok 20 elay kcode eI (d + 1) 70 (7, [(0, (1, 8)), (1, (1, 6 * t + 154)), (2, (0, p)), (3, (0, n))], [(0, 1)], w) _
    refine e_Ok.if1 rfl (fun h6 => ?_) (fun h6 => ?_)
    · replace h6 : (1 : Int) ≠ 0 := h6
      refine e_Ok.run (t' := (18, [(0, (1, 8)), (1, (1, 6 * t + 154)), (2, (0, p)), (3, (0, n))], [(0, p), (1, 6 * t + 154)], w)) 2 rfl ?_
      refine e_Ok.putf rfl (lT0 (t := t) (by omega) (by omega)) rfl rfl ?_
      generalize hw7 : e_up w (6 * t + 154) 11 p = w7
      have f8 : e_fr (kWt t) w w7 := e_fr.up (e_fr.refl w) hw7 (by unfold kWt; omega)
      have hT9 : e_Has kTy w7 := e_Has.upr hT hw7 (kT_11 (t := t) (by omega) (by omega)) (by omega)
      refine e_Ok.run (t' := (23, [(0, (1, 8)), (1, (1, 6 * t + 154)), (2, (0, p)), (3, (0, n))], [(0, n), (1, 6 * t + 154)], w7)) 2 rfl ?_
      refine e_Ok.putf rfl (lT0 (t := t) (by omega) (by omega)) rfl rfl ?_
      generalize hw10 : e_up w7 (6 * t + 154) 12 n = w10
      have f11 : e_fr (kWt t) w w10 := e_fr.up f8 hw10 (by unfold kWt; omega)
      have hT12 : e_Has kTy w10 := e_Has.ups hT9 hw10 (kT_12 (t := t) (by omega) (by omega))
      refine e_Ok.run (t' := (27, [(0, (1, 8)), (1, (1, 6 * t + 154)), (2, (0, p)), (3, (0, n))], [(0, p)], w10)) 1 rfl ?_
      refine e_Ok.if1 rfl (fun h13 => ?_) (fun h13 => ?_)
      · replace h13 : (p : Int) < 0 := h13
        refine e_Ok.rets rfl rfl ?_
        have e1 : w10 (6 * t + 154) 1 = w (6 * t + 154) 1 := (by rw [← hw10]; exact (e_up_ne _ _ (Or.inr (by omega))).trans (by rw [← hw7]; exact (e_up_ne _ _ (Or.inr (by omega))).trans rfl))
        have e2 : w10 (6 * t + 154) 2 = w (6 * t + 154) 2 := (by rw [← hw10]; exact (e_up_ne _ _ (Or.inr (by omega))).trans (by rw [← hw7]; exact (e_up_ne _ _ (Or.inr (by omega))).trans rfl))
        have e11 : w10 (6 * t + 154) 11 = p := (by rw [← hw10]; exact (e_up_ne _ _ (Or.inr (by omega))).trans (by rw [← hw7]; exact e_up_eq _ _ _ _))
        have e12 : w10 (6 * t + 154) 12 = n := (by rw [← hw10]; exact e_up_eq _ _ _ _)
        exact ⟨rfl, f11, hT12, ⟨kI.tg q hT12 (by omega) (e_fr.mono f11 (fun c k g => th_kWt g)) e2 (by omega) ⟨fun _ _ => by omega, fun g => by omega, fun g => by omega⟩ (fun _ _ => ⟨hac.1.eq (fun d k g => by rw [← hw10, e_up_ne _ _ (by omega), ← hw7, e_up_ne _ _ (by omega)]), fun g => by omega⟩), (sK.eq (fun c k g => by rw [← hw10, e_up_ne _ _ (by omega), ← hw7, e_up_ne _ _ (by omega)]) hk)⟩⟩
      · replace h13 : (p : Int) ≥ 0 := by have q : ¬ ((p : Int) < 0) := h13; omega
        refine e_Ok.run (t' := (32, [(0, (1, 8)), (1, (1, 6 * t + 154)), (2, (0, p)), (3, (0, n))], [(1, 8), (1, 6 * t + 154)], w10)) 2 rfl ?_
        refine e_Ok.getr (z := 10) rfl (el_o rfl) rfl rfl (by rw [← hw10]; exact (e_up_ne _ _ (Or.inr (by omega))).trans (by rw [← hw7]; exact (e_up_ne _ _ (Or.inr (by omega))).trans (Eq.trans (e_Has.eq hT rfl) (by omega)))) (by omega) ?_
        refine e_Ok.getr (z := 13) rfl (el_o rfl) rfl rfl (by rw [← hw10]; exact (e_up_ne _ _ (Or.inr (by omega))).trans (by rw [← hw7]; exact (e_up_ne _ _ (Or.inr (by omega))).trans (Eq.trans (e_Has.eq hT rfl) (by omega)))) (by omega) ?_
        refine e_Ok.run (t' := (39, [(0, (1, 8)), (1, (1, 6 * t + 154)), (2, (0, p)), (3, (0, n))], [(0, p), (1, 13), (1, 6 * t + 154)], w10)) 1 rfl ?_
        have h14 := (e_Has.get hT (c := 13) (k := p) (lo := (-2147483648)) (hi := 2147483647) rfl (by decide))
        refine e_Ok.ald (z := w 13 p) rfl (el_o rfl) rfl (by omega) (by rw [← hw10]; exact (e_up_ne _ _ (Or.inl (by omega))).trans (by rw [← hw7]; exact (e_up_ne _ _ (Or.inl (by omega))).trans rfl)) (by omega) ?_
        refine e_Ok.putf rfl (lT0 (t := t) (by omega) (by omega)) rfl rfl ?_
        generalize hw15 : e_up w10 (6 * t + 154) 13 (w 13 p) = w15
        have f16 : e_fr (kWt t) w w15 := e_fr.up f11 hw15 (by unfold kWt; omega)
        have hT17 : e_Has kTy w15 := e_Has.ups hT12 hw15 (kT_13 (t := t) (by omega) (by omega))
        refine e_Ok.rets rfl rfl ?_
        have e1 : w15 (6 * t + 154) 1 = w (6 * t + 154) 1 := (by rw [← hw15]; exact (e_up_ne _ _ (Or.inr (by omega))).trans (by rw [← hw10]; exact (e_up_ne _ _ (Or.inr (by omega))).trans (by rw [← hw7]; exact (e_up_ne _ _ (Or.inr (by omega))).trans rfl)))
        have e2 : w15 (6 * t + 154) 2 = w (6 * t + 154) 2 := (by rw [← hw15]; exact (e_up_ne _ _ (Or.inr (by omega))).trans (by rw [← hw10]; exact (e_up_ne _ _ (Or.inr (by omega))).trans (by rw [← hw7]; exact (e_up_ne _ _ (Or.inr (by omega))).trans rfl)))
        have e11 : w15 (6 * t + 154) 11 = p := (by rw [← hw15]; exact (e_up_ne _ _ (Or.inr (by omega))).trans (by rw [← hw10]; exact (e_up_ne _ _ (Or.inr (by omega))).trans (by rw [← hw7]; exact e_up_eq _ _ _ _)))
        have e12 : w15 (6 * t + 154) 12 = n := (by rw [← hw15]; exact (e_up_ne _ _ (Or.inr (by omega))).trans (by rw [← hw10]; exact e_up_eq _ _ _ _))
        have e13 : w15 (6 * t + 154) 13 = w 13 p := (by rw [← hw15]; exact e_up_eq _ _ _ _)
        exact ⟨rfl, f16, hT17, ⟨kI.tg q hT17 (by omega) (e_fr.mono f16 (fun c k g => th_kWt g)) e2 (by omega) ⟨fun _ _ => by omega, fun g => by omega, fun g => by omega⟩ (fun _ _ => ⟨hac.1.eq (fun d k g => by rw [← hw15, e_up_ne _ _ (by omega), ← hw10, e_up_ne _ _ (by omega), ← hw7, e_up_ne _ _ (by omega)]), fun g => by rw [e12, e13]; exact ⟨by omega, by unfold kn1; omega⟩⟩), (sK.eq (fun c k g => by rw [← hw15, e_up_ne _ _ (by omega), ← hw10, e_up_ne _ _ (by omega), ← hw7, e_up_ne _ _ (by omega)]) hk)⟩⟩
    · replace h6 : (1 : Int) = 0 := by have q : ¬ ((1 : Int) ≠ 0) := h6; omega
      exfalso; omega
  · show e_Ok 20 elay kcode eI (d + 1) 70 (7, [(0, (1, 8)), (1, (1, 6 * t + 154)), (2, (0, p)), (3, (0, n))], [(0, 0)], w) _
    refine e_Ok.if1 rfl (fun h18 => ?_) (fun h18 => ?_)
    · replace h18 : (0 : Int) ≠ 0 := h18
      exfalso; omega
    · replace h18 : (0 : Int) = 0 := by have q : ¬ ((0 : Int) ≠ 0) := h18; omega
      refine e_Ok.run (t' := (12, [(0, (1, 8)), (1, (1, 6 * t + 154)), (2, (0, p)), (3, (0, n))], [(0, 2), (1, 8)], w)) 2 rfl ?_
      refine e_Ok.callV rfl (by omega) rfl rfl rfl rfl (c_46 hT (by omega) hk) (fun r19 w20 h21 => ?_)
      obtain ⟨rfl, q22f, q22T, q22x⟩ := h21
      have f23 : e_fr (kWt t) w w20 := e_fr.trans (e_fr.refl w) (e_fr.mono q22f (fun c k q => by unfold kDs at q; unfold kWt; omega))
      have Q24 := kI.hm q q22T (e_fr.mono q22f (fun c k g => hm_kDs g))
      show e_Ok 20 elay kcode eI (d + 1) 70 (15, [(0, (1, 8)), (1, (1, 6 * t + 154)), (2, (0, p)), (3, (0, n))], [], w20) _
      refine e_Ok.rets rfl rfl ?_
      exact ⟨rfl, f23, q22T, ⟨Q24, q22x⟩⟩
theorem c_60 {d : Nat} {w : eW} (hT : e_Has kTy w) {n v : Int} (g_n : 0 ≤ n ∧ n ≤ 33554431) (g_v : (-2147483648) ≤ v ∧ v ≤ 2147483647) {t : Int} {OP OD CL : Int → Int → Int} {h : Int} (q : kI w OP OD CL h t) (hn : n ≤ h) : e_Ok 20 elay kcode eI d 60 (0, [(0, (1, 8)), (1, (0, n)), (2, (0, v))], [], w) (fun r w' => r = [] ∧ e_fr kGl w w' ∧ e_Has kTy w' ∧ (∃ h', h ≤ h' ∧ n + 1 ≤ h' ∧ kI w' OP OD CL h' t)) := by
  refine e_Ok.run (t' := (3, [(0, (1, 8)), (1, (0, n)), (2, (0, v))], [(0, 6), (0, n)], w)) 2 rfl ?_
  refine e_Ok.if2 rfl (fun h1 => ?_) (fun h1 => ?_)
  · replace h1 : (n : Int) ≥ 6 := h1
    refine e_Ok.rets rfl rfl ?_
    exact ⟨rfl, (e_fr.refl w), hT, ⟨if h ≤ n then n + 1 else h, by split <;> omega, by split <;> omega, kI.less q (by split <;> omega) (fun j g1 g2 g3 => q.gk j g1 (by omega) g3)⟩⟩
  · replace h1 : (n : Int) < 6 := by have q : ¬ ((n : Int) ≥ 6) := h1; omega
    refine e_Ok.run (t' := (7, [(0, (1, 8)), (1, (0, n)), (2, (0, v))], [(1, 8)], w)) 1 rfl ?_
    refine e_Ok.getr (z := 85) rfl (el_o rfl) rfl rfl (Eq.trans (e_Has.eq hT rfl) (by omega)) (by omega) ?_
    refine e_Ok.run (t' := (12, [(0, (1, 8)), (1, (0, n)), (2, (0, v))], [(0, v), (0, n), (1, 85)], w)) 2 rfl ?_
    refine e_Ok.ast rfl (el_o rfl) rfl rfl (by omega) ?_
    generalize hw2 : e_up w 85 n v = w2
    have f3 : e_fr kGl w w2 := e_fr.up (e_fr.refl w) hw2 (by unfold kGl; omega)
    have hT4 : e_Has kTy w2 := e_Has.ups hT hw2 rfl
    refine e_Ok.rets rfl rfl ?_
    exact ⟨rfl, f3, hT4, ⟨if h ≤ n then n + 1 else h, by split <;> omega, by split <;> omega, kI.gl q hT4 (by omega) (by unfold kn1; omega) hw2 (by split <;> omega)⟩⟩
theorem c_62 {d : Nat} (hd : 22 ≤ d) {w : eW} (hT : e_Has kTy w) {a : Int} (g_a : 0 ≤ a ∧ a ≤ 3) (hg : ∀ j, 0 ≤ j → j < w (17 * a + 86) 8 → kn1 (w 85 j)) : e_Ok 20 elay kcode eI d 62 (0, [(0, (1, 8)), (1, (1, 17 * a + 86))], [], w) (fun r w' => ∃ z : Int, r = [(0, z)] ∧ w = w' ∧ (0 ≤ z ∧ z ≤ 1) ∧ (z = 1 → ∀ j, 0 ≤ j → j < w (17 * a + 86) 8 → w (17 * a + j + 97) 1 ≤ w 85 j ∧ w 85 j ≤ w (17 * a + j + 97) 2)) := by
  obtain ⟨d, rfl⟩ : ∃ e, d = e + 1 := ⟨d - 1, by omega⟩
  have hjn := kn_joints hT (a := a) (by omega)
  refine e_Ok.run (t' := (2, [(2, (0, 0)), (0, (1, 8)), (1, (1, 17 * a + 86))], [], w)) 2 rfl ?_
  have hL1 : ∀ (nn : Nat) (y2 : Int), (∀ j, 0 ≤ j → j < y2 → w (17 * a + j + 97) 1 ≤ w 85 j ∧ w 85 j ≤ w (17 * a + j + 97) 2) ∧ (0 ≤ y2 ∧ y2 ≤ 6) ∧ y2 ≤ w (17 * a + 86) 8 → 6 - y2 < nn → e_Ok 20 elay kcode eI (d + 1) 62 (2, [(0, (1, 8)), (1, (1, 17 * a + 86)), (2, (0, y2))], [], w) (fun r w' => ∃ z : Int, r = [(0, z)] ∧ w = w' ∧ (0 ≤ z ∧ z ≤ 1) ∧ (z = 1 → ∀ j, 0 ≤ j → j < w (17 * a + 86) 8 → w (17 * a + j + 97) 1 ≤ w 85 j ∧ w 85 j ≤ w (17 * a + j + 97) 2)) := by
    intro nn
    induction nn with
    | zero => intro y2 hj hm; obtain ⟨j3, j4, j5⟩ := hj; exfalso; omega
    | succ nn ih2 =>
      intro y2 hj hm
      obtain ⟨j3, j4, j5⟩ := hj
      refine e_Ok.run (t' := (4, [(0, (1, 8)), (1, (1, 17 * a + 86)), (2, (0, y2))], [(1, 17 * a + 86), (0, y2)], w)) 2 rfl ?_
      have h6 := (e_Has.get hT (c := 17 * a + 86) (k := 8) (lo := 0) (hi := 6) (kA_8 (a := a) (by omega) (by omega)) (by decide))
      refine e_Ok.getf (z := w (17 * a + 86) 8) rfl (lA0 (a := a) (by omega) (by omega)) rfl rfl rfl (by omega) ?_
      refine e_Ok.if2 rfl (fun h7 => ?_) (fun h7 => ?_)
      · replace h7 : (y2 : Int) ≥ w (17 * a + 86) 8 := h7
        refine e_Ok.run (t' := (37, [(0, (1, 8)), (1, (1, 17 * a + 86)), (2, (0, y2))], [(0, 1)], w)) 1 rfl ?_
        refine e_Ok.rets rfl rfl ?_
        exact ⟨_, rfl, rfl, ⟨by omega, by omega⟩, fun _ j g1 g2 => j3 j g1 (by omega)⟩
      · replace h7 : (y2 : Int) < w (17 * a + 86) 8 := by have q : ¬ ((y2 : Int) ≥ w (17 * a + 86) 8) := h7; omega
        have hq := hg y2 (by omega) (by omega); unfold kn1 at hq
        refine e_Ok.run (t' := (11, [(0, (1, 8)), (1, (1, 17 * a + 86)), (2, (0, y2))], [(1, 17 * a + 86)], w)) 1 rfl ?_
        refine e_Ok.getr (z := 17 * a + 87) rfl (lA0 (a := a) (by omega) (by omega)) rfl rfl (Eq.trans (e_Has.eq hT (kA_0 (a := a) (by omega) (by omega))) (by omega)) (by omega) ?_
        refine e_Ok.run (t' := (15, [(0, (1, 8)), (1, (1, 17 * a + 86)), (2, (0, y2))], [(0, y2), (1, 17 * a + 87)], w)) 1 rfl ?_
        refine e_Ok.aald (z := 17 * a + y2 + 97) rfl (lA1 (a := a) (by omega) (by omega)) rfl (by omega) (Eq.trans (e_Has.eq hT (kA87 (a := a) (by omega) (by omega) (by omega))) (by omega)) (by omega) ?_
        refine e_Ok.run (t' := (17, [(0, (1, 8)), (1, (1, 17 * a + 86)), (2, (0, y2))], [(1, 8), (1, 17 * a + y2 + 97)], w)) 1 rfl ?_
        refine e_Ok.getr (z := 85) rfl (el_o rfl) rfl rfl (Eq.trans (e_Has.eq hT rfl) (by omega)) (by omega) ?_
        refine e_Ok.run (t' := (21, [(0, (1, 8)), (1, (1, 17 * a + 86)), (2, (0, y2))], [(0, y2), (1, 85), (1, 17 * a + y2 + 97)], w)) 1 rfl ?_
        refine e_Ok.ald (z := w 85 y2) rfl (el_o rfl) rfl (by omega) rfl (by omega) ?_
        refine e_Ok.callV rfl (by omega) rfl (lJ (a := a) (j := y2) (by omega) (by omega) (by omega)) rfl rfl (c_89 (by omega) (a := a) (j := y2) hT (by omega) (by omega) (by omega)) (fun r8 w9 h10 => ?_)
        obtain ⟨z11, rfl, rfl, q12⟩ := h10
        replace q12 : (z11 = 1 ∧ w (17 * a + y2 + 97) 1 ≤ w 85 y2 ∧ w 85 y2 ≤ w (17 * a + y2 + 97) 2) ∨ (z11 = 0 ∧ ¬ (w (17 * a + y2 + 97) 1 ≤ w 85 y2 ∧ w 85 y2 ≤ w (17 * a + y2 + 97) 2)) := q12
        obtain ⟨rfl, q12⟩ | ⟨rfl, q12⟩ := q12
        · show e_Ok 20 elay kcode eI (d + 1) 62 (25, [(0, (1, 8)), (1, (1, 17 * a + 86)), (2, (0, y2))], [(0, 1)], w) _
          refine e_Ok.if1 rfl (fun h13 => ?_) (fun h13 => ?_)
          · replace h13 : (1 : Int) ≠ 0 := h13
            refine e_Ok.inc (z := y2 + 1) rfl rfl (by omega) (by omega) ?_
            show e_Ok 20 elay kcode eI (d + 1) 62 (33, [(2, (0, y2 + 1)), (0, (1, 8)), (1, (1, 17 * a + 86))], [], w) _
            refine e_Ok.run (t' := (2, [(2, (0, y2 + 1)), (0, (1, 8)), (1, (1, 17 * a + 86))], [], w)) 1 rfl ?_
            refine e_Ok.sub kAlk (e_sub_of rfl ?_) (ih2 (y2 + 1) ⟨(fun j g1 g2 => if e : j = y2 then by rw [e]; omega else j3 j g1 (by omega)), by omega, by omega⟩ (by omega))
            exact ⟨rfl, rfl, rfl, trivial⟩
          · replace h13 : (1 : Int) = 0 := by have q : ¬ ((1 : Int) ≠ 0) := h13; omega
            exfalso; omega
        · show e_Ok 20 elay kcode eI (d + 1) 62 (25, [(0, (1, 8)), (1, (1, 17 * a + 86)), (2, (0, y2))], [(0, 0)], w) _
          refine e_Ok.if1 rfl (fun h14 => ?_) (fun h14 => ?_)
          · replace h14 : (0 : Int) ≠ 0 := h14
            exfalso; omega
          · replace h14 : (0 : Int) = 0 := by have q : ¬ ((0 : Int) ≠ 0) := h14; omega
            refine e_Ok.run (t' := (29, [(0, (1, 8)), (1, (1, 17 * a + 86)), (2, (0, y2))], [(0, 0)], w)) 1 rfl ?_
            refine e_Ok.rets rfl rfl ?_
            exact ⟨_, rfl, rfl, ⟨by omega, by omega⟩, fun g => absurd g (by decide)⟩
  refine e_Ok.sub kAlk (e_sub_of rfl ?_) (hL1 (6 + 1 : Int).toNat 0 ⟨(fun j g1 g2 => by omega), by omega, by omega⟩ (by omega))
  exact ⟨rfl, rfl, rfl, trivial⟩
theorem c_61 {d : Nat} (hd : 23 ≤ d) {w : eW} (hT : e_Has kTy w) {t a n : Int} (g_t : 0 ≤ t ∧ t ≤ 15) (g_a : 0 ≤ a ∧ a ≤ 3) (g_n : 0 ≤ n ∧ n ≤ 33554431) {OP OD CL : Int → Int → Int} {h : Int} (q : kI w OP OD CL h t) (hk : sK w) (hst : w (6 * t + 154) 1 = 1) (ha : w (6 * t + 154) 2 = a) (hn : n ≤ h) : e_Ok 20 elay kcode eI d 61 (0, [(0, (1, 8)), (1, (1, 6 * t + 154)), (2, (0, n))], [], w) (fun r w' => r = [] ∧ e_fr (kMb t a) w w' ∧ e_Has kTy w' ∧ (kI w' OP OD CL h t ∧ sK w' ∧ (w' (6 * t + 154) 1 = 1 ∨ w' (6 * t + 154) 1 = 2))) := by
  obtain ⟨d, rfl⟩ : ∃ e, d = e + 1 := ⟨d - 1, by omega⟩
  have h2 := e_Has.get hT (c := 6 * t + 154) (k := 2) (lo := -1) (hi := 3) (kT_2 (t := t) rfl (by omega)) (by decide)
  have hac := ((q.ts (t := t) (by omega) (by omega)).2 (by omega) (by omega)).1
  have hac0 := (q.ts (t := t) (by omega) (by omega)).1.1 (by omega) (by omega)
  have hjn := kn_joints hT (a := a) (by omega)
  have hcd := q.cd a (by omega) (by omega)
  unfold isCd at hcd
  have hg0 : n = w (17 * a + 86) 8 → ∀ j, 0 ≤ j → j < w (17 * a + 86) 8 → kn1 (w 85 j) := fun e j g1 g2 => q.gk j g1 (by omega) (by omega)
  refine e_Ok.run (t' := (1, [(0, (1, 8)), (1, (1, 6 * t + 154)), (2, (0, n))], [(1, 8)], w)) 1 rfl ?_
  refine e_Ok.getr (z := 9) rfl (el_o rfl) rfl rfl (Eq.trans (e_Has.eq hT rfl) (by omega)) (by omega) ?_
  refine e_Ok.run (t' := (5, [(0, (1, 8)), (1, (1, 6 * t + 154)), (2, (0, n))], [(1, 6 * t + 154), (1, 9)], w)) 1 rfl ?_
  refine e_Ok.getf (z := a) rfl (lT0 (t := t) (by omega) (by omega)) rfl rfl ha (by omega) ?_
  refine e_Ok.aald (z := 17 * a + 86) rfl (el_o rfl) rfl (by omega) (Eq.trans (e_Has.eq hT (k9 (by omega))) (by omega)) (by omega) ?_
  refine e_Ok.run (t' := (12, [(3, (1, 17 * a + 86)), (0, (1, 8)), (1, (1, 6 * t + 154)), (2, (0, n))], [(1, 17 * a + 86), (0, n)], w)) 3 rfl ?_
  have h1 := (e_Has.get hT (c := 17 * a + 86) (k := 8) (lo := 0) (hi := 6) (kA_8 (a := a) (by omega) (by omega)) (by decide))
  refine e_Ok.getf (z := w (17 * a + 86) 8) rfl (lA0 (a := a) (by omega) (by omega)) rfl rfl rfl (by omega) ?_
  refine e_Ok.if2 rfl (fun h2 => ?_) (fun h2 => ?_)
  · replace h2 : (n : Int) ≠ w (17 * a + 86) 8 := h2
    refine e_Ok.run (t' := (28, [(3, (1, 17 * a + 86)), (0, (1, 8)), (1, (1, 6 * t + 154)), (2, (0, n))], [(0, 3), (1, 8)], w)) 2 rfl ?_
    refine e_Ok.callV rfl (by omega) rfl rfl rfl rfl (c_46 hT (by omega) hk) (fun r3 w4 h5 => ?_)
    obtain ⟨rfl, q6f, q6T, q6x⟩ := h5
    have f7 : e_fr (kMb t a) w w4 := e_fr.trans (e_fr.refl w) (e_fr.mono q6f (fun c k q => by unfold kDs at q; unfold kMb; omega))
    have l8 : w4 (17 * a + 86) 8 = w (17 * a + 86) 8 := f7 (17 * a + 86) 8 (by unfold kMb; omega)
    have Q9 := kI.hm q q6T (e_fr.mono q6f (fun c k g => hm_kDs g))
    show e_Ok 20 elay kcode eI (d + 1) 61 (31, [(3, (1, 17 * a + 86)), (0, (1, 8)), (1, (1, 6 * t + 154)), (2, (0, n))], [], w4) _
    refine e_Ok.run (t' := (115, [(3, (1, 17 * a + 86)), (0, (1, 8)), (1, (1, 6 * t + 154)), (2, (0, n))], [], w4)) 1 rfl ?_
    refine e_Ok.rets rfl rfl ?_
    exact ⟨rfl, f7, q6T, ⟨Q9, q6x, Or.inl (by rw [q6f _ _ (by unfold kDs; omega)]; exact hst)⟩⟩
  · replace h2 : (n : Int) = w (17 * a + 86) 8 := by have q : ¬ ((n : Int) ≠ w (17 * a + 86) 8) := h2; omega
    refine e_Ok.run (t' := (20, [(3, (1, 17 * a + 86)), (0, (1, 8)), (1, (1, 6 * t + 154)), (2, (0, n))], [(1, 17 * a + 86), (1, 8)], w)) 2 rfl ?_
    refine e_Ok.callV rfl (by omega) rfl rfl rfl rfl (c_62 (by omega) (a := a) hT (by omega) (hg0 (by omega))) (fun r10 w11 h12 => ?_)
    obtain ⟨z14, rfl, rfl, q13r, q13x⟩ := h12
    show e_Ok 20 elay kcode eI (d + 1) 61 (23, [(3, (1, 17 * a + 86)), (0, (1, 8)), (1, (1, 6 * t + 154)), (2, (0, n))], [(0, z14)], w) _
    refine e_Ok.if1 rfl (fun h15 => ?_) (fun h15 => ?_)
    · replace h15 : (z14 : Int) ≠ 0 := h15
      have hrg := q13x (by omega)
      refine e_Ok.run (t' := (35, [(3, (1, 17 * a + 86)), (0, (1, 8)), (1, (1, 6 * t + 154)), (2, (0, n))], [(1, 17 * a + 86)], w)) 1 rfl ?_
      have h16 := (e_Has.get hT (c := 17 * a + 86) (k := 11) (lo := 0) (hi := 2) (kA_11 (a := a) (by omega) (by omega)) (by decide))
      refine e_Ok.getf (z := w (17 * a + 86) 11) rfl (lA0 (a := a) (by omega) (by omega)) rfl rfl rfl (by omega) ?_
      refine e_Ok.if1 rfl (fun h17 => ?_) (fun h17 => ?_)
      · replace h17 : (w (17 * a + 86) 11 : Int) = 0 := h17
        refine e_Ok.run (t' := (50, [(3, (1, 17 * a + 86)), (0, (1, 8)), (1, (1, 6 * t + 154)), (2, (0, n))], [(1, 8)], w)) 1 rfl ?_
        refine e_Ok.getr (z := 74) rfl (el_o rfl) rfl rfl (Eq.trans (e_Has.eq hT rfl) (by omega)) (by omega) ?_
        have h18 := (e_Has.get hT (c := 74) (k := 3) (lo := 0) (hi := 1) rfl (by decide))
        refine e_Ok.getf (z := w 74 3) rfl (el_o rfl) rfl rfl rfl (by omega) ?_
        refine e_Ok.if1 rfl (fun h19 => ?_) (fun h19 => ?_)
        · replace h19 : (w 74 3 : Int) ≠ 0 := h19
          replace hg0 := hg0 (by omega)
          refine e_Ok.run (t' := (70, [(4, (0, 0)), (3, (1, 17 * a + 86)), (0, (1, 8)), (1, (1, 6 * t + 154)), (2, (0, n))], [], w)) 2 rfl ?_
          have hL20 : ∀ (nn : Nat) (y4 : Int) (v1 : eW), e_fr (kMb t a) w v1 ∧ e_Has kTy v1 ∧ (∀ j, 0 ≤ j → j < y4 → v1 (17 * a + j + 97) 9 = w 85 j) ∧ (∀ c k, ¬ (17 * a + 97 ≤ c ∧ c ≤ 17 * a + 102 ∧ k = 9) → v1 c k = w c k) ∧ y4 ≤ w (17 * a + 86) 8 ∧ (0 ≤ y4 ∧ y4 ≤ 6) → 6 - y4 < nn → e_Ok 20 elay kcode eI (d + 1) 61 (70, [(0, (1, 8)), (1, (1, 6 * t + 154)), (3, (1, 17 * a + 86)), (4, (0, y4))], [], v1) (fun r w' => r = [] ∧ e_fr (kMb t a) w w' ∧ e_Has kTy w' ∧ (kI w' OP OD CL h t ∧ sK w' ∧ (w' (6 * t + 154) 1 = 1 ∨ w' (6 * t + 154) 1 = 2))) := by
            intro nn
            induction nn with
            | zero => intro y4 v1 hj hm; obtain ⟨j22, j23, j24, j25, j26, j27⟩ := hj; exfalso; omega
            | succ nn ih21 =>
              intro y4 v1 hj hm
              obtain ⟨j22, j23, j24, j25, j26, j27⟩ := hj
              have l28 : v1 (17 * a + 86) 8 = w (17 * a + 86) 8 := j22 (17 * a + 86) 8 (by unfold kMb; omega)
              refine e_Ok.run (t' := (73, [(0, (1, 8)), (1, (1, 6 * t + 154)), (3, (1, 17 * a + 86)), (4, (0, y4))], [(1, 17 * a + 86), (0, y4)], v1)) 2 rfl ?_
              refine e_Ok.getf (z := w (17 * a + 86) 8) rfl (lA0 (a := a) (by omega) (by omega)) rfl rfl ((j22 (17 * a + 86) 8 (by unfold kMb; omega)).trans rfl) (by omega) ?_
              refine e_Ok.if2 rfl (fun h29 => ?_) (fun h29 => ?_)
              · replace h29 : (y4 : Int) ≥ w (17 * a + 86) 8 := h29
                refine e_Ok.run (t' := (104, [(0, (1, 8)), (1, (1, 6 * t + 154)), (3, (1, 17 * a + 86)), (4, (0, y4))], [(1, 6 * t + 154), (1, 17 * a + 86)], v1)) 2 rfl ?_
                refine e_Ok.getf (z := t) rfl (lT0 (t := t) (by omega) (by omega)) rfl rfl ((j22 (6 * t + 154) 0 (by unfold kMb; omega)).trans (Eq.trans (e_Has.eq hT (kT_0 (t := t) (by omega) (by omega))) (by omega))) (by omega) ?_
                refine e_Ok.callV rfl (by omega) rfl (lA0 (a := a) (by omega) (by omega)) rfl rfl (c_13 (a := a) j23 (by omega) (by omega)) (fun r30 w31 h32 => ?_)
                obtain ⟨rfl, q33f, q33T, q33x⟩ := h32
                have f34 : e_fr (kMb t a) w w31 := e_fr.trans j22 (e_fr.mono q33f (fun c k q => by unfold kBm at q; unfold kMb; omega))
                have l35 : w31 (17 * a + 86) 8 = w (17 * a + 86) 8 := f34 (17 * a + 86) 8 (by unfold kMb; omega)
                show e_Ok 20 elay kcode eI (d + 1) 61 (110, [(0, (1, 8)), (1, (1, 6 * t + 154)), (3, (1, 17 * a + 86)), (4, (0, y4))], [], w31) _
                refine e_Ok.run (t' := (112, [(0, (1, 8)), (1, (1, 6 * t + 154)), (3, (1, 17 * a + 86)), (4, (0, y4))], [(0, 2), (1, 6 * t + 154)], w31)) 2 rfl ?_
                refine e_Ok.putf rfl (lT0 (t := t) (by omega) (by omega)) rfl rfl ?_
                generalize hw36 : e_up w31 (6 * t + 154) 1 2 = w36
                have f37 : e_fr (kMb t a) w w36 := e_fr.up f34 hw36 (by unfold kMb; omega)
                have l38 : w36 (17 * a + 86) 8 = w (17 * a + 86) 8 := f37 (17 * a + 86) 8 (by unfold kMb; omega)
                have hT40 : e_Has kTy w36 := e_Has.upr q33T hw36 (kT_1 (t := t) (by omega) (by omega)) (by omega)
                refine e_Ok.rets rfl rfl ?_
                have ew : ∀ c k, ¬ (c = 6 * t + 154 ∧ k = 1) → ¬ (c = 17 * a + 86 ∧ 11 ≤ k ∧ k ≤ 13) → ¬ (17 * a + 97 ≤ c ∧ c ≤ 17 * a + 102 ∧ (k = 9 ∨ k = 10)) → w36 c k = w c k := fun c k g1 g2 g3 => by rw [← hw36, e_up_ne _ _ (by omega), q33f c k (by unfold kBm; omega)]; exact j25 c k (by omega)
                have e9 : ∀ j, 0 ≤ j → j < w (17 * a + 86) 8 → w36 (17 * a + j + 97) 9 = w 85 j := fun j g1 g2 => by rw [← hw36, e_up_ne _ _ (by omega), q33f _ _ (by unfold kBm; omega)]; exact j24 j g1 (by omega)
                have e10 : ∀ j, 0 ≤ j → j < w (17 * a + 86) 8 → kn1 (w36 (17 * a + j + 97) 10) := fun j g1 g2 => by rw [← hw36, e_up_ne _ _ (by omega)]; exact q33x.2 j g1 (by rw [j25 _ _ (by omega)]; exact g2)
                have e11 : w36 (17 * a + 86) 11 = 1 := by rw [← hw36, e_up_ne _ _ (by omega)]; exact q33x.1.1
                have e12 : w36 (17 * a + 86) 12 = 0 := by rw [← hw36, e_up_ne _ _ (by omega)]; exact q33x.1.2.1
                have hA := (q.arm (a := a) (by omega) (by omega)).move (w' := w36) (by omega) (by omega) (fun c k g1 g2 g3 => ew c k (by unfold dA at g1; omega) (by unfold dA at g1; omega) g3) (by omega) e11 (by rw [e12]; unfold kn1; decide) (fun j g1 g2 => ⟨by rw [e9 j g1 g2]; exact hrg j g1 g2, e10 j g1 g2⟩)
                have e1 : w36 (6 * t + 154) 1 = 2 := (by rw [← hw36]; exact e_up_eq _ _ _ _)
                have hw1 : e_fr (fun c k => (c = 17 * a + 86 ∧ 11 ≤ k ∧ k ≤ 13) ∨ (17 * a + 97 ≤ c ∧ c ≤ 17 * a + 102 ∧ (k = 9 ∨ k = 10))) w w31 := fun c k g => by rw [q33f c k (by unfold kBm; omega)]; exact j25 c k (by omega)
                have hp := q.pw
                have hA0 : aR w31 a := hA.eq (by rw [ew _ _ (by omega) (by omega) (by omega)]; omega) (fun c k g => by rw [← hw36, e_up_ne _ _ (by unfold dA at g; omega)])
                have Q1 := kI.ar q q33T (by omega) (hw1.mono (fun c k g => by unfold kAh; omega)) (q.lgk.fr hw1 (by omega) (fun k => by omega)) hA0 (fun g _ => by omega)
                exact ⟨rfl, f37, hT40, ⟨kI.tg Q1 hT40 (by omega) (fun c k g => by rw [← hw36]; exact e_up_ne _ _ (by unfold kTh at g; omega)) (by rw [← hw36, e_up_ne _ _ (by omega)]) (by rw [hw1 _ _ (by omega)]; omega) ⟨fun _ _ => by rw [ew _ _ (by omega) (by omega) (by omega)]; omega, fun g => by omega, fun g => by omega⟩ (fun _ _ => by rw [hw1 _ _ (by omega), show w31 (17 * w (6 * t + 154) 2 + 86) 7 = w (17 * w (6 * t + 154) 2 + 86) 7 from hw1 _ _ (by omega), show w31 (w (17 * w (6 * t + 154) 2 + 86) 7) 1 = w (w (17 * w (6 * t + 154) 2 + 86) 7) 1 from hw1 _ _ (by omega)]; exact hac.eq (fun d k g => ew d k (by omega) (by omega) (by omega))), sK.fr (S := fun c k => (c = 6 * t + 154 ∧ k = 1) ∨ (c = 17 * a + 86 ∧ 11 ≤ k ∧ k ≤ 13) ∨ (17 * a + 97 ≤ c ∧ c ≤ 17 * a + 102 ∧ (k = 9 ∨ k = 10))) (fun c k g => ew c k (by omega) (by omega) (by omega)) (by omega) (fun k => by omega) hk, Or.inr e1⟩⟩
              · replace h29 : (y4 : Int) < w (17 * a + 86) 8 := by have q : ¬ ((y4 : Int) ≥ w (17 * a + 86) 8) := h29; omega
                have hq := hg0 y4 (by omega) (by omega); unfold kn1 at hq
                have e85 : v1 85 y4 = w 85 y4 := j25 _ _ (by omega)
                refine e_Ok.run (t' := (80, [(0, (1, 8)), (1, (1, 6 * t + 154)), (3, (1, 17 * a + 86)), (4, (0, y4))], [(1, 17 * a + 86)], v1)) 1 rfl ?_
                refine e_Ok.getr (z := 17 * a + 87) rfl (lA0 (a := a) (by omega) (by omega)) rfl rfl ((j22 (17 * a + 86) 0 (by unfold kMb; omega)).trans (Eq.trans (e_Has.eq hT (kA_0 (a := a) (by omega) (by omega))) (by omega))) (by omega) ?_
                refine e_Ok.run (t' := (85, [(0, (1, 8)), (1, (1, 6 * t + 154)), (3, (1, 17 * a + 86)), (4, (0, y4))], [(0, y4), (1, 17 * a + 87)], v1)) 1 rfl ?_
                refine e_Ok.aald (z := 17 * a + y4 + 97) rfl (lA1 (a := a) (by omega) (by omega)) rfl (by omega) ((j22 (17 * a + 87) y4 (by unfold kMb; omega)).trans (Eq.trans (e_Has.eq hT (kA87 (a := a) (by omega) (by omega) (by omega))) (by omega))) (by omega) ?_
                refine e_Ok.run (t' := (87, [(0, (1, 8)), (1, (1, 6 * t + 154)), (3, (1, 17 * a + 86)), (4, (0, y4))], [(1, 8), (1, 17 * a + y4 + 97)], v1)) 1 rfl ?_
                refine e_Ok.getr (z := 85) rfl (el_o rfl) rfl rfl ((j22 8 7 (by unfold kMb; omega)).trans (Eq.trans (e_Has.eq hT rfl) (by omega))) (by omega) ?_
                refine e_Ok.run (t' := (92, [(0, (1, 8)), (1, (1, 6 * t + 154)), (3, (1, 17 * a + 86)), (4, (0, y4))], [(0, y4), (1, 85), (1, 17 * a + y4 + 97)], v1)) 1 rfl ?_
                refine e_Ok.ald (z := w 85 y4) rfl (el_o rfl) rfl (by omega) ((j22 85 y4 (by unfold kMb; omega)).trans rfl) (by omega) ?_
                refine e_Ok.putf rfl (lJ (a := a) (j := y4) (by omega) (by omega) (by omega)) rfl rfl ?_
                generalize hw41 : e_up v1 (17 * a + y4 + 97) 9 (w 85 y4) = w41
                have f42 : e_fr (kMb t a) w w41 := e_fr.up j22 hw41 (by unfold kMb; omega)
                have l43 : w41 (17 * a + 86) 8 = w (17 * a + 86) 8 := f42 (17 * a + 86) 8 (by unfold kMb; omega)
                have hT44 : e_Has kTy w41 := e_Has.upr j23 hw41 (kJ_9 (a := a) (j := y4) (by omega) (by omega) (by omega)) (by omega)
                refine e_Ok.inc (z := y4 + 1) rfl rfl (by omega) (by omega) ?_
                show e_Ok 20 elay kcode eI (d + 1) 61 (99, [(4, (0, y4 + 1)), (0, (1, 8)), (1, (1, 6 * t + 154)), (3, (1, 17 * a + 86))], [], w41) _
                refine e_Ok.run (t' := (70, [(4, (0, y4 + 1)), (0, (1, 8)), (1, (1, 6 * t + 154)), (3, (1, 17 * a + 86))], [], w41)) 1 rfl ?_
                refine e_Ok.sub kAlk (e_sub_of rfl ?_) (ih21 (y4 + 1) w41 ⟨f42, hT44, (fun j g1 g2 => by rw [← hw41]; by_cases e : j = y4; (rw [e, e_up_eq]); (rw [e_up_ne _ _ (Or.inl (by omega))]; exact j24 j g1 (by omega))), (fun c k g1 => by rw [← hw41, e_up_ne _ _ (by omega)]; exact j25 c k g1), by omega, by omega⟩ (by omega))
                exact ⟨rfl, rfl, rfl, rfl, trivial⟩
          refine e_Ok.sub kAlk (e_sub_of rfl ?_) (hL20 (6 + 1 : Int).toNat 0 w ⟨(e_fr.refl w), hT, (fun j g1 g2 => by omega), (fun _ _ _ => rfl), by omega, by omega⟩ (by omega))
          exact ⟨rfl, rfl, rfl, rfl, trivial⟩
        · replace h19 : (w 74 3 : Int) = 0 := by have q : ¬ ((w 74 3 : Int) ≠ 0) := h19; omega
          refine e_Ok.run (t' := (61, [(3, (1, 17 * a + 86)), (0, (1, 8)), (1, (1, 6 * t + 154)), (2, (0, n))], [(0, 5), (1, 8)], w)) 2 rfl ?_
          refine e_Ok.callV rfl (by omega) rfl rfl rfl rfl (c_46 hT (by omega) hk) (fun r45 w46 h47 => ?_)
          obtain ⟨rfl, q48f, q48T, q48x⟩ := h47
          have f49 : e_fr (kMb t a) w w46 := e_fr.trans (e_fr.refl w) (e_fr.mono q48f (fun c k q => by unfold kDs at q; unfold kMb; omega))
          have l50 : w46 (17 * a + 86) 8 = w (17 * a + 86) 8 := f49 (17 * a + 86) 8 (by unfold kMb; omega)
          have Q51 := kI.hm q q48T (e_fr.mono q48f (fun c k g => hm_kDs g))
          show e_Ok 20 elay kcode eI (d + 1) 61 (64, [(3, (1, 17 * a + 86)), (0, (1, 8)), (1, (1, 6 * t + 154)), (2, (0, n))], [], w46) _
          refine e_Ok.run (t' := (115, [(3, (1, 17 * a + 86)), (0, (1, 8)), (1, (1, 6 * t + 154)), (2, (0, n))], [], w46)) 1 rfl ?_
          refine e_Ok.rets rfl rfl ?_
          exact ⟨rfl, f49, q48T, ⟨Q51, q48x, Or.inl (by rw [q48f _ _ (by unfold kDs; omega)]; exact hst)⟩⟩
      · replace h17 : (w (17 * a + 86) 11 : Int) ≠ 0 := by have q : ¬ ((w (17 * a + 86) 11 : Int) = 0) := h17; omega
        refine e_Ok.run (t' := (43, [(3, (1, 17 * a + 86)), (0, (1, 8)), (1, (1, 6 * t + 154)), (2, (0, n))], [(0, 4), (1, 8)], w)) 2 rfl ?_
        refine e_Ok.callV rfl (by omega) rfl rfl rfl rfl (c_46 hT (by omega) hk) (fun r52 w53 h54 => ?_)
        obtain ⟨rfl, q55f, q55T, q55x⟩ := h54
        have f56 : e_fr (kMb t a) w w53 := e_fr.trans (e_fr.refl w) (e_fr.mono q55f (fun c k q => by unfold kDs at q; unfold kMb; omega))
        have l57 : w53 (17 * a + 86) 8 = w (17 * a + 86) 8 := f56 (17 * a + 86) 8 (by unfold kMb; omega)
        have Q58 := kI.hm q q55T (e_fr.mono q55f (fun c k g => hm_kDs g))
        show e_Ok 20 elay kcode eI (d + 1) 61 (46, [(3, (1, 17 * a + 86)), (0, (1, 8)), (1, (1, 6 * t + 154)), (2, (0, n))], [], w53) _
        refine e_Ok.run (t' := (115, [(3, (1, 17 * a + 86)), (0, (1, 8)), (1, (1, 6 * t + 154)), (2, (0, n))], [], w53)) 1 rfl ?_
        refine e_Ok.rets rfl rfl ?_
        exact ⟨rfl, f56, q55T, ⟨Q58, q55x, Or.inl (by rw [q55f _ _ (by unfold kDs; omega)]; exact hst)⟩⟩
    · replace h15 : (z14 : Int) = 0 := by have q : ¬ ((z14 : Int) ≠ 0) := h15; omega
      refine e_Ok.run (t' := (28, [(3, (1, 17 * a + 86)), (0, (1, 8)), (1, (1, 6 * t + 154)), (2, (0, n))], [(0, 3), (1, 8)], w)) 2 rfl ?_
      refine e_Ok.callV rfl (by omega) rfl rfl rfl rfl (c_46 hT (by omega) hk) (fun r59 w60 h61 => ?_)
      obtain ⟨rfl, q62f, q62T, q62x⟩ := h61
      have f63 : e_fr (kMb t a) w w60 := e_fr.trans (e_fr.refl w) (e_fr.mono q62f (fun c k q => by unfold kDs at q; unfold kMb; omega))
      have l64 : w60 (17 * a + 86) 8 = w (17 * a + 86) 8 := f63 (17 * a + 86) 8 (by unfold kMb; omega)
      have Q65 := kI.hm q q62T (e_fr.mono q62f (fun c k g => hm_kDs g))
      show e_Ok 20 elay kcode eI (d + 1) 61 (31, [(3, (1, 17 * a + 86)), (0, (1, 8)), (1, (1, 6 * t + 154)), (2, (0, n))], [], w60) _
      refine e_Ok.run (t' := (115, [(3, (1, 17 * a + 86)), (0, (1, 8)), (1, (1, 6 * t + 154)), (2, (0, n))], [], w60)) 1 rfl ?_
      refine e_Ok.rets rfl rfl ?_
      exact ⟨rfl, f63, q62T, ⟨Q65, q62x, Or.inl (by rw [q62f _ _ (by unfold kDs; omega)]; exact hst)⟩⟩
end
