-- part 58
section
noncomputable section
def mLv (t c k : Int) : Prop := (c = 275 ∧ (k = 100 ∨ k = 102)) ∨ (c = 276 ∧ (k = 5 ∨ 25060 ≤ k ∨ (20868 ≤ k ∧ k ≤ 20875) ∨ (16 ≤ k ∧ k < 160 ∧ ((k - 16) % 36 = 0 ∨ (k - 16) % 36 = 2 ∨ (k - 16) % 36 = 6 ∨ (k - 16) % 36 = 9)) ∨ (416 ≤ k ∧ k < 20576 ∧ ((k - 416) % 1260 = 7)) ∨ k = 1260 * t + 416 ∨ k = 1260 * t + 418 ∨ k = 1260 * t + 419 ∨ (1260 * t + 428 ≤ k ∧ k ≤ 1260 * t + 430) ∨ (1260 * t + 436 ≤ k ∧ k ≤ 1260 * t + 1675)))
def mDe (c k : Int) : Prop := (c = 275 ∧ k = 102) ∨ c = 345
theorem c_362 {d : Nat} {w : eW} (hT : e_Has mTy w) {t : Int} (ht : 0 ≤ t ∧ t ≤ 15) (h97 : w 275 97 = 1260 * t + 416) {f z : Int} (hF : w 276 (1260 * t + 428) = f) (hf : 1 ≤ f ∧ f ≤ 20) (hz : 1260 * t + 2 * f + 434 = z) : e_Ok 20 elay ecode eI d 362 (0, [(0, (1, 275))], [], w) (fun r w' => r = [(0, z)] ∧ w = w') := by
  refine e_Ok.run (t' := (1, [(0, (1, 275))], [(1, 275)], w)) 1 rfl ?_
  refine e_Ok.getf (z := 1260 * t + 416) rfl (el_o rfl) rfl rfl h97 (by omega) ?_
  refine e_Ok.run (t' := (6, [(0, (1, 275))], [(0, 20), (0, 1260 * t + 416)], w)) 1 rfl ?_
  refine e_Ok.add (z := 1260 * t + 436) rfl (by first | with_reducible rfl | exact Int.add_comm _ _ | omega) (by omega) ?_
  refine e_Ok.run (t' := (9, [(0, (1, 275))], [(1, 275), (0, 2), (0, 1260 * t + 436)], w)) 2 rfl ?_
  refine e_Ok.getr (z := 276) rfl (el_o rfl) rfl rfl (e_Has.eq hT rfl) ⟨by decide, by decide⟩ ?_
  refine e_Ok.run (t' := (13, [(0, (1, 275))], [(1, 275), (1, 276), (0, 2), (0, 1260 * t + 436)], w)) 1 rfl ?_
  refine e_Ok.getf (z := 1260 * t + 416) rfl (el_o rfl) rfl rfl h97 (by omega) ?_
  refine e_Ok.run (t' := (18, [(0, (1, 275))], [(0, 12), (0, 1260 * t + 416), (1, 276), (0, 2), (0, 1260 * t + 436)], w)) 1 rfl ?_
  refine e_Ok.add (z := 1260 * t + 428) rfl (by first | with_reducible rfl | exact Int.add_comm _ _ | omega) (by omega) ?_
  refine e_Ok.ald (z := f) rfl (el_o rfl) rfl (by omega) hF (by omega) ?_
  refine e_Ok.run (t' := (21, [(0, (1, 275))], [(0, 1), (0, f), (0, 2), (0, 1260 * t + 436)], w)) 1 rfl ?_
  refine e_Ok.sub' (z := f - 1) rfl (by first | with_reducible rfl | exact Int.add_comm _ _ | omega) (by omega) ?_
  refine e_Ok.mul (z := 2 * f - 2) rfl (by first | with_reducible rfl | exact Int.add_comm _ _ | omega) (by omega) ?_
  refine e_Ok.add (z := 1260 * t + 2 * f + 434) rfl (by first | with_reducible rfl | exact Int.add_comm _ _ | omega) (by omega) ?_
  refine e_Ok.rets rfl rfl ?_
  exact ⟨by rw [← hz], rfl⟩
theorem c_365 {d : Nat} (hd : 21 ≤ d) {w : eW} (hT : e_Has mTy w) {t : Int} (ht : 0 ≤ t ∧ t ≤ 15) (h97 : w 275 97 = 1260 * t + 416) {f z x : Int} (hF : w 276 (1260 * t + 428) = f) (hf : 1 ≤ f ∧ f ≤ 20) (hz : 1260 * t + 2 * f + 434 = z) : e_Ok 20 elay ecode eI d 365 (0, [(0, (1, 275)), (1, (0, x))], [], w) (fun r w' => r = [] ∧ e_up w 276 z x = w') := by
  obtain ⟨d, rfl⟩ : ∃ e, d = e + 1 := ⟨d - 1, by omega⟩
  refine e_Ok.run (t' := (1, [(0, (1, 275)), (1, (0, x))], [(1, 275)], w)) 1 rfl ?_
  refine e_Ok.getr (z := 276) rfl (el_o rfl) rfl rfl (e_Has.eq hT rfl) ⟨by decide, by decide⟩ ?_
  refine e_Ok.run (t' := (5, [(0, (1, 275)), (1, (0, x))], [(1, 275), (1, 276)], w)) 1 rfl ?_
  refine e_Ok.callV rfl (by first | exact e_dq hd rfl | omega) rfl rfl rfl rfl (c_362 hT (by omega) h97 (f := f) (z := 1260 * t + 2 * f + 434) hF (by omega) (by omega)) (fun r1 w2 h3 => ?_)
  obtain ⟨rfl, rfl⟩ := h3
  show e_Ok 20 elay ecode eI (d + 1) 365 (8, [(0, (1, 275)), (1, (0, x))], [(0, 1260 * t + 2 * f + 434), (1, 276)], w) _
  refine e_Ok.run (t' := (9, [(0, (1, 275)), (1, (0, x))], [(0, x), (0, 1260 * t + 2 * f + 434), (1, 276)], w)) 1 rfl ?_
  refine e_Ok.ast rfl (el_o rfl) rfl rfl (by omega) ?_
  generalize hw4 : e_up w 276 (1260 * t + 2 * f + 434) x = w4
  refine e_Ok.rets rfl rfl ?_
  exact ⟨rfl, by rw [← hz]; exact hw4⟩
theorem c_363 {d : Nat} {w : eW} (hT : e_Has mTy w) {e e1 x : Int} (he : w 275 102 = e) (hr : 0 ≤ e ∧ e ≤ 4199) (h1 : e + 1 = e1) : e_Ok 20 elay ecode eI d 363 (0, [(0, (1, 275)), (1, (0, x))], [], w) (fun r w' => r = [] ∧ e_up (e_up w 345 e x) 275 102 e1 = w') := by
  refine e_Ok.run (t' := (1, [(0, (1, 275)), (1, (0, x))], [(1, 275)], w)) 1 rfl ?_
  refine e_Ok.getr (z := 345) rfl (el_o rfl) rfl rfl (e_Has.eq hT rfl) ⟨by decide, by decide⟩ ?_
  refine e_Ok.run (t' := (5, [(0, (1, 275)), (1, (0, x))], [(1, 275), (1, 345)], w)) 1 rfl ?_
  refine e_Ok.getf (z := e) rfl (el_o rfl) rfl rfl he (by omega) ?_
  refine e_Ok.run (t' := (9, [(0, (1, 275)), (1, (0, x))], [(0, x), (0, e), (1, 345)], w)) 1 rfl ?_
  refine e_Ok.ast rfl (el_o rfl) rfl rfl (by omega) ?_
  generalize hw1 : e_up w 345 e x = w1
  refine e_Ok.run (t' := (12, [(0, (1, 275)), (1, (0, x))], [(1, 275), (1, 275)], w1)) 2 rfl ?_
  refine e_Ok.getf (z := e) rfl (el_o rfl) rfl rfl (e_uq hw1 (Or.inl (by first | decide | exact e_neo (by decide) | exact e_ne1 (by decide) | exact e_ne2 (by decide) | omega)) he) (by omega) ?_
  refine e_Ok.run (t' := (16, [(0, (1, 275)), (1, (0, x))], [(0, 1), (0, e), (1, 275)], w1)) 1 rfl ?_
  refine e_Ok.add (z := e + 1) rfl (by first | with_reducible rfl | exact Int.add_comm _ _ | omega) (by omega) ?_
  refine e_Ok.putf rfl (el_o rfl) rfl rfl ?_
  generalize hw2 : e_up w1 275 102 (e + 1) = w2
  refine e_Ok.rets rfl rfl ?_
  exact ⟨rfl, by rw [← h1]; exact hw2⟩
theorem c_364 {d : Nat} {w : eW} (hT : e_Has mTy w) {e u : Int} (he : w 275 102 = e) (hr : 1 ≤ e ∧ e ≤ 4200) (hu : e - 1 = u) (hk : -2147483648 ≤ w 345 u ∧ w 345 u ≤ 2147483647) : e_Ok 20 elay ecode eI d 364 (0, [(0, (1, 275))], [], w) (fun r w' => r = [(0, w 345 u)] ∧ e_up w 275 102 u = w') := by
  subst hu
  have kk : ∀ i, e - 1 ≤ i → i ≤ e - 1 → -2147483648 ≤ w 345 i ∧ w 345 i ≤ 2147483647 := fun i h1 h2 => by rw [show i = e - 1 by omega]; exact hk
  refine e_Ok.run (t' := (2, [(0, (1, 275))], [(1, 275), (1, 275)], w)) 2 rfl ?_
  refine e_Ok.getf (z := e) rfl (el_o rfl) rfl rfl he (by omega) ?_
  refine e_Ok.run (t' := (6, [(0, (1, 275))], [(0, 1), (0, e), (1, 275)], w)) 1 rfl ?_
  refine e_Ok.sub' (z := e - 1) rfl (by first | with_reducible rfl | exact Int.add_comm _ _ | omega) (by omega) ?_
  refine e_Ok.putf rfl (el_o rfl) rfl rfl ?_
  generalize hw1 : e_up w 275 102 (e - 1) = w1
  refine e_Ok.run (t' := (11, [(0, (1, 275))], [(1, 275)], w1)) 1 rfl ?_
  refine e_Ok.getr (z := 345) rfl (el_o rfl) rfl rfl (e_uq hw1 (Or.inr (by first | decide | exact e_neo (by decide) | exact e_ne1 (by decide) | exact e_ne2 (by decide) | omega)) (e_Has.eq hT rfl)) ⟨by decide, by decide⟩ ?_
  refine e_Ok.run (t' := (15, [(0, (1, 275))], [(1, 275), (1, 345)], w1)) 1 rfl ?_
  refine e_Ok.getf (z := e - 1) rfl (el_o rfl) rfl rfl (e_ue hw1) (by omega) ?_
  have h2 := (kk (e - 1) (by omega) (by omega))
  refine e_Ok.ald (z := w 345 (e - 1)) rfl (el_o rfl) rfl (by omega) (e_uq hw1 (Or.inl (by first | decide | exact e_neo (by decide) | exact e_ne1 (by decide) | exact e_ne2 (by decide) | omega)) rfl) (by omega) ?_
  refine e_Ok.rets rfl rfl ?_
  exact ⟨rfl, rfl⟩
theorem c_370 {d : Nat} {w : eW} (hT : e_Has mTy w) {t : Int} (ht : 0 ≤ t ∧ t ≤ 15) (h97 : w 275 97 = 1260 * t + 416) {m m1 x y z z1 : Int} (hP : w 276 (1260 * t + 429) = m) (hm : 0 ≤ m ∧ m ≤ 599) (hm1 : m + 1 = m1) (hz : 1260 * t + 2 * m + 476 = z) (hz1 : 1260 * t + 2 * m + 477 = z1) : e_Ok 20 elay ecode eI d 370 (0, [(0, (1, 275)), (1, (0, x)), (2, (0, y))], [], w) (fun r w' => r = [] ∧ e_up (e_up (e_up w 276 z x) 276 z1 y) 276 (1260 * t + 429) m1 = w') := by
  refine e_Ok.run (t' := (1, [(0, (1, 275)), (1, (0, x)), (2, (0, y))], [(1, 275)], w)) 1 rfl ?_
  refine e_Ok.getf (z := 1260 * t + 416) rfl (el_o rfl) rfl rfl h97 (by omega) ?_
  refine e_Ok.run (t' := (6, [(0, (1, 275)), (1, (0, x)), (2, (0, y))], [(0, 60), (0, 1260 * t + 416)], w)) 1 rfl ?_
  refine e_Ok.add (z := 1260 * t + 476) rfl (by first | with_reducible rfl | exact Int.add_comm _ _ | omega) (by omega) ?_
  refine e_Ok.run (t' := (9, [(0, (1, 275)), (1, (0, x)), (2, (0, y))], [(1, 275), (0, 2), (0, 1260 * t + 476)], w)) 2 rfl ?_
  refine e_Ok.getr (z := 276) rfl (el_o rfl) rfl rfl (e_Has.eq hT rfl) ⟨by decide, by decide⟩ ?_
  refine e_Ok.run (t' := (13, [(0, (1, 275)), (1, (0, x)), (2, (0, y))], [(1, 275), (1, 276), (0, 2), (0, 1260 * t + 476)], w)) 1 rfl ?_
  refine e_Ok.getf (z := 1260 * t + 416) rfl (el_o rfl) rfl rfl h97 (by omega) ?_
  refine e_Ok.run (t' := (18, [(0, (1, 275)), (1, (0, x)), (2, (0, y))], [(0, 13), (0, 1260 * t + 416), (1, 276), (0, 2), (0, 1260 * t + 476)], w)) 1 rfl ?_
  refine e_Ok.add (z := 1260 * t + 429) rfl (by first | with_reducible rfl | exact Int.add_comm _ _ | omega) (by omega) ?_
  refine e_Ok.ald (z := m) rfl (el_o rfl) rfl (by omega) hP (by omega) ?_
  refine e_Ok.mul (z := 2 * m) rfl (by first | with_reducible rfl | exact Int.add_comm _ _ | omega) (by omega) ?_
  refine e_Ok.add (z := 1260 * t + 2 * m + 476) rfl (by first | with_reducible rfl | exact Int.add_comm _ _ | omega) (by omega) ?_
  refine e_Ok.run (t' := (24, [(3, (0, 1260 * t + 2 * m + 476)), (0, (1, 275)), (1, (0, x)), (2, (0, y))], [(1, 275)], w)) 2 rfl ?_
  refine e_Ok.getr (z := 276) rfl (el_o rfl) rfl rfl (e_Has.eq hT rfl) ⟨by decide, by decide⟩ ?_
  refine e_Ok.run (t' := (29, [(3, (0, 1260 * t + 2 * m + 476)), (0, (1, 275)), (1, (0, x)), (2, (0, y))], [(0, x), (0, 1260 * t + 2 * m + 476), (1, 276)], w)) 2 rfl ?_
  refine e_Ok.ast rfl (el_o rfl) rfl rfl (by omega) ?_
  generalize hw1 : e_up w 276 (1260 * t + 2 * m + 476) x = w1
  refine e_Ok.run (t' := (31, [(3, (0, 1260 * t + 2 * m + 476)), (0, (1, 275)), (1, (0, x)), (2, (0, y))], [(1, 275)], w1)) 1 rfl ?_
  refine e_Ok.getr (z := 276) rfl (el_o rfl) rfl rfl (e_uq hw1 (Or.inl (by first | decide | exact e_neo (by decide) | exact e_ne1 (by decide) | exact e_ne2 (by decide) | omega)) (e_Has.eq hT rfl)) ⟨by decide, by decide⟩ ?_
  refine e_Ok.run (t' := (36, [(3, (0, 1260 * t + 2 * m + 476)), (0, (1, 275)), (1, (0, x)), (2, (0, y))], [(0, 1), (0, 1260 * t + 2 * m + 476), (1, 276)], w1)) 2 rfl ?_
  refine e_Ok.add (z := 1260 * t + 2 * m + 477) rfl (by first | with_reducible rfl | exact Int.add_comm _ _ | omega) (by omega) ?_
  refine e_Ok.run (t' := (38, [(3, (0, 1260 * t + 2 * m + 476)), (0, (1, 275)), (1, (0, x)), (2, (0, y))], [(0, y), (0, 1260 * t + 2 * m + 477), (1, 276)], w1)) 1 rfl ?_
  refine e_Ok.ast rfl (el_o rfl) rfl rfl (by omega) ?_
  generalize hw2 : e_up w1 276 (1260 * t + 2 * m + 477) y = w2
  refine e_Ok.run (t' := (40, [(3, (0, 1260 * t + 2 * m + 476)), (0, (1, 275)), (1, (0, x)), (2, (0, y))], [(1, 275)], w2)) 1 rfl ?_
  refine e_Ok.getr (z := 276) rfl (el_o rfl) rfl rfl (e_uq hw2 (Or.inl (by first | decide | exact e_neo (by decide) | exact e_ne1 (by decide) | exact e_ne2 (by decide) | omega)) (e_uq hw1 (Or.inl (by first | decide | exact e_neo (by decide) | exact e_ne1 (by decide) | exact e_ne2 (by decide) | omega)) (e_Has.eq hT rfl))) ⟨by decide, by decide⟩ ?_
  refine e_Ok.run (t' := (44, [(3, (0, 1260 * t + 2 * m + 476)), (0, (1, 275)), (1, (0, x)), (2, (0, y))], [(1, 275), (1, 276)], w2)) 1 rfl ?_
  refine e_Ok.getf (z := 1260 * t + 416) rfl (el_o rfl) rfl rfl (e_uq hw2 (Or.inl (by first | decide | exact e_neo (by decide) | exact e_ne1 (by decide) | exact e_ne2 (by decide) | omega)) (e_uq hw1 (Or.inl (by first | decide | exact e_neo (by decide) | exact e_ne1 (by decide) | exact e_ne2 (by decide) | omega)) h97)) (by omega) ?_
  refine e_Ok.run (t' := (49, [(3, (0, 1260 * t + 2 * m + 476)), (0, (1, 275)), (1, (0, x)), (2, (0, y))], [(0, 13), (0, 1260 * t + 416), (1, 276)], w2)) 1 rfl ?_
  refine e_Ok.add (z := 1260 * t + 429) rfl (by first | with_reducible rfl | exact Int.add_comm _ _ | omega) (by omega) ?_
  refine e_Ok.run (t' := (51, [(3, (0, 1260 * t + 2 * m + 476)), (0, (1, 275)), (1, (0, x)), (2, (0, y))], [(0, 1260 * t + 429), (1, 276), (0, 1260 * t + 429), (1, 276)], w2)) 1 rfl ?_
  refine e_Ok.ald (z := m) rfl (el_o rfl) rfl (by omega) (e_uq hw2 (Or.inr (by first | decide | exact e_neo (by decide) | exact e_ne1 (by decide) | exact e_ne2 (by decide) | omega)) (e_uq hw1 (Or.inr (by first | decide | exact e_neo (by decide) | exact e_ne1 (by decide) | exact e_ne2 (by decide) | omega)) hP)) (by omega) ?_
  refine e_Ok.run (t' := (53, [(3, (0, 1260 * t + 2 * m + 476)), (0, (1, 275)), (1, (0, x)), (2, (0, y))], [(0, 1), (0, m), (0, 1260 * t + 429), (1, 276)], w2)) 1 rfl ?_
  refine e_Ok.add (z := m + 1) rfl (by first | with_reducible rfl | exact Int.add_comm _ _ | omega) (by omega) ?_
  refine e_Ok.ast rfl (el_o rfl) rfl rfl (by omega) ?_
  generalize hw3 : e_up w2 276 (1260 * t + 429) (m + 1) = w3
  refine e_Ok.rets rfl rfl ?_
  exact ⟨rfl, by rw [← hz, ← hz1, ← hm1, hw1, hw2]; exact hw3⟩
end
end
-- part 58a
section
noncomputable section
/-! a program's text and a task's frames stay what they are where nothing of them is written -/
theorem insOk.fr {w w' : eW} {a n nt nw : Int} {dl sg en : Int → Int} {br : Int → Int → Prop} {p : Int} (e : ∀ c k, 328 ≤ c → c ≤ 338 → w' c k = w c k) (h : insOk w a n nt nw dl sg en br p) : insOk w' a n nt nw dl sg en br p := by
  unfold insOk iS iFT at h ⊢
  simp only [e 328 _ (by decide) (by decide), e 329 _ (by decide) (by decide), e 330 _ (by decide) (by decide), e 331 _ (by decide) (by decide), e 336 _ (by decide) (by decide), e 338 _ (by decide) (by decide)]
  exact h
theorem cOk.fr {w w' : eW} {a n nt nw : Int} {dl sg pi en : Int → Int} {an br : Int → Int → Prop} (e : ∀ c k, 328 ≤ c → c ≤ 338 → w' c k = w c k) (h : cOk w a n nt nw dl sg pi en an br) : cOk w' a n nt nw dl sg pi en an br := by
  obtain ⟨h1, h2, h3, h4, h5, h6, h7⟩ := h
  refine ⟨h1, fun p q1 q2 => (h2 p q1 q2).fr e, fun t q1 q2 => ?_, h4, fun v q1 q2 => ?_, fun r v q1 q2 q3 => ?_, fun q q1 q2 => ?_⟩
  · have := h3 t q1 q2
    unfold tryOk tgt at this ⊢
    simp only [e 330 _ (by decide) (by decide), e 331 _ (by decide) (by decide), e 332 _ (by decide) (by decide), e 333 _ (by decide) (by decide), e 334 _ (by decide) (by decide)]
    exact this
  · have := h5 v q1 q2
    unfold tgt at this ⊢
    simp only [e 330 _ (by decide) (by decide), e 335 _ (by decide) (by decide), e 336 _ (by decide) (by decide)]
    exact this
  · have := h6 r v q1 q2 q3
    simp only [e 331 _ (by decide) (by decide), e 334 _ (by decide) (by decide), e 335 _ (by decide) (by decide), e 336 _ (by decide) (by decide)]
    exact this
  · have q2' : q < w 338 a := by rw [← e 338 a (by decide) (by decide)]; exact q2
    have := h7 q q1 q2'
    unfold tgt at this ⊢
    simp only [e 330 _ (by decide) (by decide), e 337 _ (by decide) (by decide)]
    exact this
theorem lowOk.fr {w w' : eW} {a t g n : Int} {dl sg pi : Int → Int} {an : Int → Int → Prop} {bs ow : Int → Int} (e : ∀ c k, 328 ≤ c → c ≤ 338 → w' c k = w c k) (e1 : ∀ i, 0 ≤ i → i < g → w' 276 (1260 * t + 2 * i + 436) = w 276 (1260 * t + 2 * i + 436) ∧ w' 276 (1260 * t + 2 * i + 439) = w 276 (1260 * t + 2 * i + 439)) (h : lowOk w a t g n dl sg pi an bs ow) : lowOk w' a t g n dl sg pi an bs ow := by
  obtain ⟨h1, h2, hm, h3⟩ := h
  refine ⟨h1, h2, hm, fun i q1 q2 => ?_⟩
  have := h3 i q1 q2
  unfold iFT at this ⊢
  rw [(e1 i q1 q2).1, (e1 i q1 q2).2]
  simp only [e 330 _ (by decide) (by decide)]
  exact this
theorem pendOk.fr {w w' : eW} {a t nt nw : Int} {br : Int → Int → Prop} {ow : Int → Int} {j : Int} (e : ∀ c k, 328 ≤ c → c ≤ 338 → w' c k = w c k) (e1 : w' 276 (1260 * t + 2 * j + 476) = w 276 (1260 * t + 2 * j + 476) ∧ w' 276 (1260 * t + 2 * j + 477) = w 276 (1260 * t + 2 * j + 477)) (h : pendOk w a t nt nw br ow j) : pendOk w' a t nt nw br ow j := by
  unfold pendOk at h ⊢
  rw [e1.1, e1.2]
  simp only [e 331 _ (by decide) (by decide), e 334 _ (by decide) (by decide), e 336 _ (by decide) (by decide)]
  exact h
theorem runOk.fr {w w' : eW} {a t g r n nt nw : Int} {dl sg pi : Int → Int} {an br : Int → Int → Prop} {bs ow : Int → Int} (e : ∀ c k, 328 ≤ c → c ≤ 338 → w' c k = w c k) (e1 : ∀ i, 0 ≤ i → i < g → w' 276 (1260 * t + 2 * i + 436) = w 276 (1260 * t + 2 * i + 436) ∧ w' 276 (1260 * t + 2 * i + 439) = w 276 (1260 * t + 2 * i + 439)) (e2 : w' 276 (1260 * t + 428) = w 276 (1260 * t + 428)) (e3 : w' 276 (1260 * t + 429) = w 276 (1260 * t + 429)) (e4 : ∀ k, 0 ≤ k → k < 1200 → w' 276 (1260 * t + k + 476) = w 276 (1260 * t + k + 476)) (hp : pi r ≤ 30) (h : runOk w a t g r n nt nw dl sg pi an br bs ow) : runOk w' a t g r n nt nw dl sg pi an br bs ow := by
  obtain ⟨h1, h2, h3, h4, h5, h6, h7⟩ := h
  refine ⟨h1, by rw [e2]; exact h2, h3.fr e e1, h4, by rw [e3]; exact h5, h6, fun j q1 q2 => (h7 j q1 q2).fr e ?_⟩
  have hb := h3.2.1 g (by omega) (Int.le_refl g)
  have k1 := e4 (2 * j) (by omega) (by omega)
  have k2 := e4 (2 * j + 1) (by omega) (by omega)
  rw [show 1260 * t + (2 * j + 1) + 476 = 1260 * t + 2 * j + 477 by omega] at k2
  exact ⟨k1, k2⟩
end
end
-- part 58b
section
noncomputable section
/-! places of frames and pending entries; a frame is left -/
theorem nR_FRg {e : Int} (t i : Int) (h : 0 ≤ t ∧ t ≤ 15) (hi : 0 ≤ i ∧ i ≤ 19) (he : e = 1260 * t + 2 * i + 436) : mTy 276 e = (0, 9999) := by rw [he]; exact nR_FRAME h hi
theorem nR_FRWg {e : Int} (t i : Int) (h : 0 ≤ t ∧ t ≤ 15) (hi : 0 ≤ i ∧ i ≤ 19) (he : e = 1260 * t + 2 * i + 437) : mTy 276 e = (0, 1) := by rw [he]; exact nR_FRAMEW h hi
theorem nR_PEg {e : Int} (t : Int) (h : 0 ≤ t ∧ t ≤ 15) (he : 1260 * t + 476 ≤ e ∧ e ≤ 1260 * t + 1675) : mTy 276 e = (-2147483648, 2147483647) := by
  have := nR_PEND (t := t) (i := e - 1260 * t - 476) h (by omega)
  rwa [show 1260 * t + (e - 1260 * t - 476) + 476 = e by omega] at this
section E58
variable {w w' : eW} {a t g n nt nw : Int} {dl sg pi en : Int → Int} {an br : Int → Int → Prop} {bs ow : Int → Int}
/-- the frame below the top, in the words that the printed proofs use -/
theorem lowOk.top (h : lowOk w a t g n dl sg pi an bs ow) (hg : 1 ≤ g) : (0 ≤ w 276 (1260 * t + 2 * g + 434) ∧ w 276 (1260 * t + 2 * g + 434) < n) ∧ bs g = bs (g - 1) + pi (w 330 (10000 * a + w 276 (1260 * t + 2 * g + 434))) ∧ chn pi ow an (w 330 (10000 * a + w 276 (1260 * t + 2 * g + 434))) (bs (g - 1)) ∧
    (w 276 (1260 * t + 2 * g + 437) ≠ 1 → iFT w a n (w 276 (1260 * t + 2 * g + 434)) ∧ dl (w 276 (1260 * t + 2 * g + 434) + 1) = 0 ∧ sg (w 276 (1260 * t + 2 * g + 434) + 1) = 0) ∧ (w 276 (1260 * t + 2 * g + 437) = 1 → dl (w 276 (1260 * t + 2 * g + 434)) = 0 ∧ sg (w 276 (1260 * t + 2 * g + 434)) = 0) := by
  have q := h.2.2.2 (g - 1) (by omega) (by omega)
  rw [show 1260 * t + 2 * (g - 1) + 436 = 1260 * t + 2 * g + 434 by omega, show 1260 * t + 2 * (g - 1) + 439 = 1260 * t + 2 * g + 437 by omega, show g - 1 + 1 = g by omega] at q
  exact q
theorem lowOk.less (h : lowOk w a t g n dl sg pi an bs ow) (k : Int) (hk : k ≤ g) : lowOk w a t k n dl sg pi an bs ow := ⟨h.1, fun i h1 h2 => h.2.1 i h1 (by omega), fun i j h1 h2 h3 => h.2.2.1 i j h1 h2 (by omega), fun i h1 h2 => h.2.2.2 i h1 (by omega)⟩
theorem runOk.pop (hC : cOk w a n nt nw dl sg pi en an br) (h : runOk w a t g (-1) n nt nw dl sg pi an br bs ow) (hg : 1 ≤ g) (e : ∀ c k, 328 ≤ c → c ≤ 338 → w' c k = w c k) (e1 : ∀ i, 0 ≤ i → i < g - 1 → w' 276 (1260 * t + 2 * i + 436) = w 276 (1260 * t + 2 * i + 436) ∧ w' 276 (1260 * t + 2 * i + 439) = w 276 (1260 * t + 2 * i + 439)) (e2 : w' 276 (1260 * t + 428) = g) (e3 : w' 276 (1260 * t + 429) = w 276 (1260 * t + 429)) (e4 : ∀ k, 0 ≤ k → k < 1200 → w' 276 (1260 * t + k + 476) = w 276 (1260 * t + k + 476)) : runOk w' a t (g - 1) (w 330 (10000 * a + w 276 (1260 * t + 2 * g + 434))) n nt nw dl sg pi an br bs ow := by
  obtain ⟨h1, h2, h3, h4, h5, h6, h7⟩ := h
  obtain ⟨q1, q2, q3, -, -⟩ := h3.top hg
  have hp0 := hC.2.2.2.1.1
  have hi := (hC.2.1 _ q1.1 q1.2).1.2.1
  have hb := h3.2.1 g (by omega) (Int.le_refl g)
  refine ⟨by omega, by omega, (h3.less (g - 1) (by omega)).fr e e1, hi, by rw [e3, h5, hp0]; omega, q3, fun j k1 k2 => (h7 j k1 (by omega)).fr e ?_⟩
  have l1 := e4 (2 * j) (by omega) (by omega)
  have l2 := e4 (2 * j + 1) (by omega) (by omega)
  rw [show 1260 * t + (2 * j + 1) + 476 = 1260 * t + 2 * j + 477 by omega] at l2
  exact ⟨l1, l2⟩
/-- at another place of the same region -/
theorem runOk.at {r p : Int} (h : runOk w' a t g r n nt nw dl sg pi an br bs ow) (hp : 0 ≤ p ∧ p < n) (h1 : w' 276 (1260 * t + 2 * g + 436) = p) (hr : w' 330 (10000 * a + p) = r) : topOk w' a t g p n nt nw dl sg pi an br bs ow := ⟨hp, h1, by rw [hr]; exact h⟩
end E58
end
end
-- part 58c
section
noncomputable section
/-! a region is left: by its catch, by its finally, upwards -/
section E58c
variable {w w' : eW} {a t g r r' n nt nw : Int} {dl sg pi en : Int → Int} {an br : Int → Int → Prop} {bs ow : Int → Int}
/-- to a region with as many open finallys, the same ones -/
theorem runOk.to (h : runOk w a t g r n nt nw dl sg pi an br bs ow) (e : ∀ c k, 328 ≤ c → c ≤ 338 → w' c k = w c k) (e1 : ∀ i, 0 ≤ i → i < g → w' 276 (1260 * t + 2 * i + 436) = w 276 (1260 * t + 2 * i + 436) ∧ w' 276 (1260 * t + 2 * i + 439) = w 276 (1260 * t + 2 * i + 439)) (e2 : w' 276 (1260 * t + 428) = w 276 (1260 * t + 428)) (e3 : w' 276 (1260 * t + 429) = bs g + pi r') (e4 : ∀ k, 0 ≤ k → k < 1200 → w' 276 (1260 * t + k + 476) = w 276 (1260 * t + k + 476)) (hp : pi r ≤ 30) (hr : -1 ≤ r' ∧ r' < 3 * nt) (hle : pi r' ≤ pi r) (hq : ∀ q, an r' q → 0 ≤ q → q % 3 = 2 → an r q) : runOk w' a t g r' n nt nw dl sg pi an br bs ow := by
  obtain ⟨h1, h2, h3, h4, h5, h6, h7⟩ := h
  have hb := h3.2.1 g (by omega) (Int.le_refl g)
  refine ⟨h1, by rw [e2]; exact h2, h3.fr e e1, hr, e3, fun q q1 q2 q3 => h6 q (hq q q1 q2 q3) q2 q3, fun j q1 q2 => (h7 j q1 (by omega)).fr e ?_⟩
  have k1 := e4 (2 * j) (by omega) (by omega)
  have k2 := e4 (2 * j + 1) (by omega) (by omega)
  rw [show 1260 * t + (2 * j + 1) + 476 = 1260 * t + 2 * j + 477 by omega] at k2
  exact ⟨k1, k2⟩
def owUp (ow : Int → Int) (m z : Int) (j : Int) : Int := if j = m then z else ow j
theorem owUp_eq (ow : Int → Int) (m z : Int) : owUp ow m z m = z := if_pos rfl
theorem owUp_ne (ow : Int → Int) {m j : Int} (z : Int) (h : j ≠ m) : owUp ow m z j = ow j := if_neg h
/-- into the finally of the try z -/
theorem runOk.fin {z i x y : Int} (hC : cOk w a n nt nw dl sg pi en an br) (h : runOk w a t g r n nt nw dl sg pi an br bs ow) (hz : 0 ≤ z ∧ z < nt) (hi : 0 ≤ i ∧ i ≤ 1) (hr : r = 3 * z + i) (e : ∀ c k, 328 ≤ c → c ≤ 338 → w' c k = w c k) (e1 : ∀ i, 0 ≤ i → i < g → w' 276 (1260 * t + 2 * i + 436) = w 276 (1260 * t + 2 * i + 436) ∧ w' 276 (1260 * t + 2 * i + 439) = w 276 (1260 * t + 2 * i + 439)) (e2 : w' 276 (1260 * t + 428) = w 276 (1260 * t + 428)) (e3 : w' 276 (1260 * t + 429) = bs g + pi r + 1)
    (e4 : ∀ k, 0 ≤ k → k < 2 * (bs g + pi r) → w' 276 (1260 * t + k + 476) = w 276 (1260 * t + k + 476)) (e5 : w' 276 (1260 * t + 2 * (bs g + pi r) + 476) = x) (e6 : w' 276 (1260 * t + 2 * (bs g + pi r) + 477) = y) (hx : x = 3 → 0 ≤ y ∧ y < nw ∧ br (w 331 (900 * a + z)) y ∧ w 334 (900 * a + z) ≤ w 336 (900 * a + y)) : runOk w' a t g (3 * z + 2) n nt nw dl sg pi an br bs (owUp ow (bs g + pi r) z) := by
  obtain ⟨h1, h2, h3, h4, h5, h6, h7⟩ := h
  have hb := h3.2.1 g (by omega) (Int.le_refl g)
  have hty := hC.2.2.1 z hz.1 hz.2
  obtain ⟨t1, t2, -, -, -, t6, t7⟩ := hty
  have hpm := hC.2.2.2.1.2.2.2.2.2
  have hpr := hC.2.2.2.1.2.1
  have hpi : pi (3 * z + 2) = pi r + 1 := by
    subst hr
    obtain rfl | rfl : i = 0 ∨ i = 1 := by omega
    · rw [show 3 * z + 0 = 3 * z by omega]; omega
    · omega
  have han : ∀ q, an (w 331 (900 * a + z)) q → an r q := fun q hq => by rw [hr]; exact t7 i q (by omega) (by omega) hq
  refine ⟨h1, by rw [e2]; exact h2, ⟨h3.1, h3.2.1, h3.2.2.1, fun k q1 q2 => ?_⟩, by omega, by rw [e3]; omega, fun q q1 q2 q3 => ?_, fun j q1 q2 => ?_⟩
  · have := (h3.fr e e1).2.2.2 k q1 q2
    refine ⟨this.1, this.2.1, fun q k1 k2 k3 => ?_, this.2.2.2⟩
    have h9 := this.2.2.1 q k1 k2 k3
    have hin := hC.2.1 (w 276 (1260 * t + 2 * k + 436)) (by rw [← (e1 k q1 q2).1]; exact this.1.1) (by rw [← (e1 k q1 q2).1]; exact this.1.2)
    have hrg := hin.1.2.1
    have k1' := k1
    rw [e 330 _ (by decide) (by decide), (e1 k q1 q2).1] at k1'
    have h10 := hpm _ q k1' hrg.1 hrg.2
    have h11 := this.2.1
    rw [e 330 _ (by decide) (by decide), (e1 k q1 q2).1] at h11
    have h12 := h3.2.2.1 (k + 1) g (by omega) (by omega) (by omega)
    have h13 := (hpr r h4.1 h4.2).1
    rw [owUp_ne _ _ (by omega)]
    exact h9
  · rcases t6 2 q (by omega) (by omega) q1 with rfl | hq
    · rw [show bs g + pi (3 * z + 2) - 1 = bs g + pi r by omega, owUp_eq]; omega
    · have h10 := hpm r q (han q hq) h4.1 h4.2
      rw [owUp_ne _ _ (by omega)]
      exact h6 q (han q hq) q2 q3
  · by_cases ej : j = bs g + pi r
    · subst ej
      unfold pendOk
      rw [e5, e6, owUp_eq]
      simp only [e 331 _ (by decide) (by decide), e 334 _ (by decide) (by decide), e 336 _ (by decide) (by decide)]
      exact ⟨hz, hx⟩
    · have h8 := h7 j q1 (by omega)
      have k1 := e4 (2 * j) (by omega) (by omega)
      have k2 := e4 (2 * j + 1) (by omega) (by omega)
      rw [show 1260 * t + (2 * j + 1) + 476 = 1260 * t + 2 * j + 477 by omega] at k2
      have h9 := h8.fr e ⟨k1, k2⟩
      unfold pendOk at h9 ⊢
      rw [owUp_ne _ _ ej]
      exact h9
end E58c
end
end
-- part 58d
section
noncomputable section
/-! arms' states and ways over a chain of steps -/
theorem sRel.refl {w : eW} : sRel w w := fun _ _ _ => Or.inl ⟨rfl, rfl⟩
theorem sRel.trans {w w1 w2 : eW} (h : sRel w w1) (h' : sRel w1 w2) : sRel w w2 := fun b g1 g2 => by
  have q1 := h b g1 g2
  have q2 := h' b g1 g2
  omega
theorem sRel.up {w w0 w1 : eW} {c k z : Int} (h : sRel w w0) (hw : e_up w0 c k z = w1) (hn : c = 276 → ∀ b, 0 ≤ b → b ≤ 3 → k ≠ 36 * b + 16 ∧ k ≠ 36 * b + 22) : sRel w w1 := fun b g1 g2 => by
  have e1 : w1 276 (36 * b + 16) = w0 276 (36 * b + 16) := by
    rw [← hw]
    refine e_up_ne _ _ ?_
    by_cases e : c = 276
    · exact Or.inr (fun q => (hn e b g1 g2).1 q.symm)
    · exact Or.inl (fun q => e q.symm)
  have e2 : w1 276 (36 * b + 22) = w0 276 (36 * b + 22) := by
    rw [← hw]
    refine e_up_ne _ _ ?_
    by_cases e : c = 276
    · exact Or.inr (fun q => (hn e b g1 g2).2 q.symm)
    · exact Or.inl (fun q => e q.symm)
  rw [e1, e2]
  exact h b g1 g2
theorem sRel.fr {S : Int → Int → Prop} {w w0 w1 : eW} (h : sRel w w0) (hf : e_fr S w0 w1) (hn : ∀ b, 0 ≤ b → b ≤ 3 → ¬ S 276 (36 * b + 16) ∧ ¬ S 276 (36 * b + 22)) : sRel w w1 := fun b g1 g2 => by
  rw [hf _ _ (hn b g1 g2).1, hf _ _ (hn b g1 g2).2]
  exact h b g1 g2
end
end
-- part 59
section
noncomputable section
theorem no_59_0 {k : Int} : ¬ mE 275 k := by unfold mE; omega
theorem no_59_1 : ¬ mLk 276 5 := by unfold mLk; omega
theorem no_59_2 {t : Int} (ht : 0 ≤ t ∧ t ≤ 15) : ¬ mLk 276 (1260 * t + 416) := by unfold mLk; omega
theorem no_59_3 {t : Int} (ht : 0 ≤ t ∧ t ≤ 15) : ¬ mE 276 (1260 * t + 416) := by unfold mE; omega
theorem no_59_4 {k : Int} : ¬ mLk 275 k := by unfold mLk; omega
theorem no_59_5 {t : Int} (ht : 0 ≤ t ∧ t ≤ 15) : ¬ mBr 276 (1260 * t + 416) := by unfold mBr; omega
theorem no_59_6 {k : Int} : ¬ mBr 275 k := by unfold mBr; omega
theorem su_59_7 {t : Int} {c k : Int} (q : mE c k) : mLv t c k := by
  unfold mE at q
  rcases q with ⟨q, (q | q)⟩
  · exact Or.inr ⟨(by omega), Or.inl (by omega)⟩
  · exact Or.inr ⟨(by omega), Or.inr (Or.inl (by omega))⟩
theorem su_59_8 {t : Int} {c k : Int} (q : mLk c k) : mLv t c k := by
  unfold mLk at q
  rcases q with ⟨q, ⟨q, q⟩⟩
  · exact Or.inr ⟨(by omega), Or.inr (Or.inr (Or.inl ⟨(by omega), (by omega)⟩))⟩
theorem su_59_9 {t : Int} {c k : Int} (q : mBr c k) : mLv t c k := by
  unfold mBr at q
  rcases q with ⟨q, (q | q | ⟨q, (⟨q, (q | q)⟩)⟩ | ⟨q, ⟨q, q⟩⟩ | ⟨q, ⟨q, q⟩⟩)⟩
  · exact Or.inr ⟨(by omega), Or.inl (by omega)⟩
  · exact Or.inr ⟨(by omega), Or.inr (Or.inl (by omega))⟩
  · exact Or.inr ⟨(by omega), Or.inr (Or.inr (Or.inr (Or.inl ⟨(by omega), ⟨(by omega), Or.inr (Or.inr (Or.inl (by omega)))⟩⟩)))⟩
  · unfold mLv; omega
  · exact Or.inr ⟨(by omega), Or.inr (Or.inr (Or.inr (Or.inr (Or.inl ⟨(by omega), ⟨(by omega), (by omega)⟩⟩))))⟩
  · exact Or.inr ⟨(by omega), Or.inr (Or.inr (Or.inr (Or.inl ⟨(by omega), ⟨(by omega), Or.inl (by omega)⟩⟩)))⟩
set_option maxHeartbeats 4000000 in
theorem c_372 {d : Nat} (hd : 25 ≤ d) {w : eW} (hT : e_Has mTy w) {t a g : Int} (ht : 0 ≤ t ∧ t ≤ 15) (ha : 0 ≤ a ∧ a ≤ 3) (h96 : w 275 96 = t) (h97 : w 275 97 = 1260 * t + 416) (h98 : w 275 98 = a) {n nt nw : Int} {dl sg pi en : Int → Int} {an br : Int → Int → Prop} {bs ow : Int → Int} (hC : cOk w a n nt nw dl sg pi en an br) (hR : runOk w a t g (-1) n nt nw dl sg pi an br bs ow) (hE : w 276 5 ≤ 2147483600) {x y : Int} (hy : -2147483648 ≤ y ∧ y ≤ 2147483647) : e_Ok 20 elay ecode eI d 372 (0, [(0, (1, 275)), (1, (0, x)), (2, (0, y))], [], w) (fun r w' => ∃ z : Int, r = [(0, z)] ∧ (e_fr (mLv t) w w' ∧ sRel w w') ∧ e_Has mTy w' ∧ (w 276 5 ≤ w' 276 5 ∧ w' 276 5 ≤ w 276 5 + 2) ∧ w' 275 102 = w 275 102 ∧ ((1 ≤ g ∧ x = 1 ∧ z = w 330 (10000 * a + w 276 (1260 * t + 2 * g + 434)) ∧ runOk w' a t (g - 1) z n nt nw dl sg pi an br bs ow ∧ w' 275 100 = w 275 100 ∧ w' 276 5 = w 276 5 ∧ w' 276 (1260 * t + 416) = w 276 (1260 * t + 416)) ∨ (1 ≤ g ∧ x ≠ 1 ∧ z = -2 ∧ ∃ p, topOk w' a t (g - 1) p n nt nw dl sg pi an br bs ow ∧ dl p = 0 ∧ sg p = 0 ∧ w' 275 100 = w 275 100 ∧ w' 276 5 = w 276 5 ∧ w' 276 (1260 * t + 416) = w 276 (1260 * t + 416)) ∨ (g = 0 ∧ z = -2 ∧ w' 275 100 = 1 ∧ (w' 276 (1260 * t + 416) = 6 ∨ w' 276 (1260 * t + 416) = 7)))) := by
  obtain ⟨d, rfl⟩ : ∃ e, d = e + 1 := ⟨d - 1, by omega⟩
  obtain ⟨hg, hF, hlow, -, hPn, -, -⟩ := id hR
  refine e_Ok.run (t' := (1, [(0, (1, 275)), (1, (0, x)), (2, (0, y))], [(1, 275)], w)) 1 rfl ?_
  refine e_Ok.getr (z := 276) rfl (el_o rfl) rfl rfl (e_Has.eq hT rfl) ⟨by decide, by decide⟩ ?_
  refine e_Ok.run (t' := (5, [(0, (1, 275)), (1, (0, x)), (2, (0, y))], [(1, 275), (1, 276)], w)) 1 rfl ?_
  refine e_Ok.callV rfl (by first | exact e_dq hd rfl | omega) rfl rfl rfl rfl (c_362 hT (by omega) h97 (f := g + 1) (z := 1260 * t + 2 * g + 436) hF (by omega) (by omega)) (fun r1 w2 h3 => ?_)
  obtain ⟨rfl, rfl⟩ := h3
  show e_Ok 20 elay ecode eI (d + 1) 372 (8, [(0, (1, 275)), (1, (0, x)), (2, (0, y))], [(0, 1260 * t + 2 * g + 436), (1, 276)], w) _
  refine e_Ok.run (t' := (9, [(0, (1, 275)), (1, (0, x)), (2, (0, y))], [(0, 1), (0, 1260 * t + 2 * g + 436), (1, 276)], w)) 1 rfl ?_
  refine e_Ok.add (z := 1260 * t + 2 * g + 437) rfl (by first | with_reducible rfl | exact Int.add_comm _ _ | omega) (by omega) ?_
  have h4 := (e_Has.get hT (c := 276) (k := 1260 * t + 2 * g + 437) (lo := 0) (hi := 1) (nR_FRWg t (g) (by omega) (by omega) (by omega)) (by decide))
  refine e_Ok.ald (z := w 276 (1260 * t + 2 * g + 437)) rfl (el_o rfl) rfl (by omega) rfl (by first | exact e_bq h4 (by decide) (by decide) | omega) ?_
  refine e_Ok.run (t' := (12, [(0, (1, 275)), (1, (0, x)), (2, (0, y))], [(0, 1), (0, w 276 (1260 * t + 2 * g + 437))], w)) 1 rfl ?_
  refine e_Ok.if2 rfl (fun h5 => ?_) (fun h5 => ?_)
  · replace h5 : (w 276 (1260 * t + 2 * g + 437) : Int) ≠ 1 := h5
    refine e_Ok.run (t' := (22, [(3, (0, 0)), (0, (1, 275)), (1, (0, x)), (2, (0, y))], [(1, 275)], w)) 3 rfl ?_
    refine e_Ok.getr (z := 276) rfl (el_o rfl) rfl rfl (e_Has.eq hT rfl) ⟨by decide, by decide⟩ ?_
    refine e_Ok.run (t' := (26, [(3, (0, 0)), (0, (1, 275)), (1, (0, x)), (2, (0, y))], [(1, 275), (1, 276)], w)) 1 rfl ?_
    refine e_Ok.getf (z := 1260 * t + 416) rfl (el_o rfl) rfl rfl h97 (by omega) ?_
    refine e_Ok.run (t' := (31, [(3, (0, 0)), (0, (1, 275)), (1, (0, x)), (2, (0, y))], [(0, 12), (0, 1260 * t + 416), (1, 276)], w)) 1 rfl ?_
    refine e_Ok.add (z := 1260 * t + 428) rfl (by first | with_reducible rfl | exact Int.add_comm _ _ | omega) (by omega) ?_
    refine e_Ok.run (t' := (33, [(3, (0, 0)), (0, (1, 275)), (1, (0, x)), (2, (0, y))], [(0, 1260 * t + 428), (1, 276), (0, 1260 * t + 428), (1, 276)], w)) 1 rfl ?_
    refine e_Ok.ald (z := g + 1) rfl (el_o rfl) rfl (by omega) hF (by omega) ?_
    refine e_Ok.run (t' := (35, [(3, (0, 0)), (0, (1, 275)), (1, (0, x)), (2, (0, y))], [(0, 1), (0, g + 1), (0, 1260 * t + 428), (1, 276)], w)) 1 rfl ?_
    refine e_Ok.sub' (z := g) rfl (by first | with_reducible rfl | exact Int.add_comm _ _ | omega) (by omega) ?_
    refine e_Ok.ast rfl (el_o rfl) rfl rfl (by omega) ?_
    generalize hw6 : e_up w 276 (1260 * t + 428) g = w6
    have f7 : e_fr (mLv t) w w6 := e_fr.up (e_fr.refl w) hw6 (by first | exact Or.inr ⟨rfl, Or.inr (Or.inr (Or.inr (Or.inr (Or.inr (Or.inr (Or.inr (Or.inr (Or.inl ⟨(by omega), (by omega)⟩))))))))⟩ | (unfold mLv; omega))
    have hT8 : e_Has mTy w6 := e_Has.upr hT hw6 (nR_FRAMES (t := t) (by omega)) (by omega)
    refine e_Ok.run (t' := (38, [(3, (0, 0)), (0, (1, 275)), (1, (0, x)), (2, (0, y))], [(1, 275)], w6)) 1 rfl ?_
    refine e_Ok.getr (z := 276) rfl (el_o rfl) rfl rfl (e_uq hw6 (Or.inl (by first | decide | exact e_neo (by decide) | exact e_ne1 (by decide) | exact e_ne2 (by decide) | omega)) (e_Has.eq hT rfl)) ⟨by decide, by decide⟩ ?_
    refine e_Ok.run (t' := (42, [(3, (0, 0)), (0, (1, 275)), (1, (0, x)), (2, (0, y))], [(1, 275), (1, 276)], w6)) 1 rfl ?_
    refine e_Ok.getf (z := 1260 * t + 416) rfl (el_o rfl) rfl rfl (e_uq hw6 (Or.inl (by first | decide | exact e_neo (by decide) | exact e_ne1 (by decide) | exact e_ne2 (by decide) | omega)) h97) (by omega) ?_
    refine e_Ok.run (t' := (47, [(3, (0, 0)), (0, (1, 275)), (1, (0, x)), (2, (0, y))], [(0, 14), (0, 1260 * t + 416), (1, 276)], w6)) 1 rfl ?_
    refine e_Ok.add (z := 1260 * t + 430) rfl (by first | with_reducible rfl | exact Int.add_comm _ _ | omega) (by omega) ?_
    refine e_Ok.run (t' := (49, [(3, (0, 0)), (0, (1, 275)), (1, (0, x)), (2, (0, y))], [(0, 1260 * t + 430), (1, 276), (0, 1260 * t + 430), (1, 276)], w6)) 1 rfl ?_
    have h9 := (e_Has.get hT (c := 276) (k := 1260 * t + 430) (lo := (-2147483648)) (hi := 2147483647) (nR_IN_WATCH (t := t) (by omega)) (by decide))
    refine e_Ok.ald (z := w 276 (1260 * t + 430)) rfl (el_o rfl) rfl (by omega) (e_uq hw6 (Or.inr (by first | decide | exact e_neo (by decide) | exact e_ne1 (by decide) | exact e_ne2 (by decide) | omega)) rfl) (by first | exact e_bq h9 (by decide) (by decide) | omega) ?_
    refine e_Ok.run (t' := (51, [(3, (0, 0)), (0, (1, 275)), (1, (0, x)), (2, (0, y))], [(0, 0), (0, w 276 (1260 * t + 430)), (0, 1260 * t + 430), (1, 276)], w6)) 1 rfl ?_
    refine e_Ok.if1 rfl (fun h10 => ?_) (fun h10 => ?_)
    · replace h10 : (0 : Int) = 0 := h10
      refine e_Ok.run (t' := (59, [(3, (0, 0)), (0, (1, 275)), (1, (0, x)), (2, (0, y))], [(0, 0), (0, w 276 (1260 * t + 430)), (0, 1260 * t + 430), (1, 276)], w6)) 1 rfl ?_
      refine e_Ok.sub' (z := w 276 (1260 * t + 430)) rfl (by first | with_reducible rfl | exact Int.add_comm _ _ | omega) (by omega) ?_
      refine e_Ok.ast rfl (el_o rfl) rfl rfl (by omega) ?_
      generalize hw11 : e_up w6 276 (1260 * t + 430) (w 276 (1260 * t + 430)) = w11
      have f12 : e_fr (mLv t) w w11 := e_fr.up f7 hw11 (by first | exact Or.inr ⟨rfl, Or.inr (Or.inr (Or.inr (Or.inr (Or.inr (Or.inr (Or.inr (Or.inr (Or.inl ⟨(by omega), (by omega)⟩))))))))⟩ | (unfold mLv; omega))
      have hT13 : e_Has mTy w11 := e_Has.upr hT8 hw11 (nR_IN_WATCH (t := t) (by omega)) (by omega)
      refine e_Ok.run (t' := (62, [(3, (0, 0)), (0, (1, 275)), (1, (0, x)), (2, (0, y))], [(1, 275)], w11)) 1 rfl ?_
      refine e_Ok.getr (z := 276) rfl (el_o rfl) rfl rfl (e_uq hw11 (Or.inl (by first | decide | exact e_neo (by decide) | exact e_ne1 (by decide) | exact e_ne2 (by decide) | omega)) (e_uq hw6 (Or.inl (by first | decide | exact e_neo (by decide) | exact e_ne1 (by decide) | exact e_ne2 (by decide) | omega)) (e_Has.eq hT rfl))) ⟨by decide, by decide⟩ ?_
      refine e_Ok.run (t' := (66, [(3, (0, 0)), (0, (1, 275)), (1, (0, x)), (2, (0, y))], [(1, 275), (1, 276)], w11)) 1 rfl ?_
      refine e_Ok.getf (z := 1260 * t + 416) rfl (el_o rfl) rfl rfl (e_uq hw11 (Or.inl (by first | decide | exact e_neo (by decide) | exact e_ne1 (by decide) | exact e_ne2 (by decide) | omega)) (e_uq hw6 (Or.inl (by first | decide | exact e_neo (by decide) | exact e_ne1 (by decide) | exact e_ne2 (by decide) | omega)) h97)) (by omega) ?_
      refine e_Ok.run (t' := (71, [(3, (0, 0)), (0, (1, 275)), (1, (0, x)), (2, (0, y))], [(0, 12), (0, 1260 * t + 416), (1, 276)], w11)) 1 rfl ?_
      refine e_Ok.add (z := 1260 * t + 428) rfl (by first | with_reducible rfl | exact Int.add_comm _ _ | omega) (by omega) ?_
      refine e_Ok.ald (z := g) rfl (el_o rfl) rfl (by omega) (e_uq hw11 (Or.inr (by first | decide | exact e_neo (by decide) | exact e_ne1 (by decide) | exact e_ne2 (by decide) | omega)) (e_ue hw6)) (by omega) ?_
      refine e_Ok.if1 rfl (fun h14 => ?_) (fun h14 => ?_)
      · replace h14 : (g : Int) ≤ 0 := h14
        refine e_Ok.run (t' := (133, [(3, (0, 0)), (0, (1, 275)), (1, (0, x)), (2, (0, y))], [(0, 1), (1, 275)], w11)) 2 rfl ?_
        refine e_Ok.putb rfl (el_o rfl) rfl rfl (by omega) ?_
        generalize hw15 : e_up w11 275 100 1 = w15
        have f16 : e_fr (mLv t) w w15 := e_fr.up f12 hw15 (by first | exact Or.inl ⟨rfl, Or.inl rfl⟩ | (unfold mLv; omega))
        have hT17 : e_Has mTy w15 := e_Has.ups hT13 hw15 rfl
        refine e_Ok.run (t' := (138, [(3, (0, 0)), (0, (1, 275)), (1, (0, x)), (2, (0, y))], [(0, 1), (0, x)], w15)) 2 rfl ?_
        refine e_Ok.if2 rfl (fun h18 => ?_) (fun h18 => ?_)
        · replace h18 : (x : Int) ≠ 1 := h18
          refine e_Ok.run (t' := (212, [(3, (0, 0)), (0, (1, 275)), (1, (0, x)), (2, (0, y))], [(1, 275)], w15)) 1 rfl ?_
          refine e_Ok.getr (z := 276) rfl (el_o rfl) rfl rfl (e_uq hw15 (Or.inr (by first | decide | exact e_neo (by decide) | exact e_ne1 (by decide) | exact e_ne2 (by decide) | omega)) (e_uq hw11 (Or.inl (by first | decide | exact e_neo (by decide) | exact e_ne1 (by decide) | exact e_ne2 (by decide) | omega)) (e_uq hw6 (Or.inl (by first | decide | exact e_neo (by decide) | exact e_ne1 (by decide) | exact e_ne2 (by decide) | omega)) (e_Has.eq hT rfl)))) ⟨by decide, by decide⟩ ?_
          refine e_Ok.run (t' := (216, [(3, (0, 0)), (0, (1, 275)), (1, (0, x)), (2, (0, y))], [(1, 275), (1, 276)], w15)) 1 rfl ?_
          refine e_Ok.getf (z := 1260 * t + 416) rfl (el_o rfl) rfl rfl (e_uq hw15 (Or.inr (by first | decide | exact e_neo (by decide) | exact e_ne1 (by decide) | exact e_ne2 (by decide) | omega)) (e_uq hw11 (Or.inl (by first | decide | exact e_neo (by decide) | exact e_ne1 (by decide) | exact e_ne2 (by decide) | omega)) (e_uq hw6 (Or.inl (by first | decide | exact e_neo (by decide) | exact e_ne1 (by decide) | exact e_ne2 (by decide) | omega)) h97))) (by omega) ?_
          refine e_Ok.run (t' := (221, [(3, (0, 0)), (0, (1, 275)), (1, (0, x)), (2, (0, y))], [(0, 6), (0, 1260 * t + 416), (1, 276)], w15)) 1 rfl ?_
          refine e_Ok.ast rfl (el_o rfl) rfl rfl (by omega) ?_
          generalize hw19 : e_up w15 276 (1260 * t + 416) 6 = w19
          have f20 : e_fr (mLv t) w w19 := e_fr.up f16 hw19 (by first | exact Or.inr ⟨rfl, Or.inr (Or.inr (Or.inr (Or.inr (Or.inr (Or.inl (by omega))))))⟩ | (unfold mLv; omega))
          have hT21 : e_Has mTy w19 := e_Has.upr hT17 hw19 (nR_TSTATE (t := t) (by omega)) (by omega)
          refine e_Ok.run (t' := (225, [(3, (0, 0)), (0, (1, 275)), (1, (0, x)), (2, (0, y))], [(1, 275), (0, 4), (1, 275)], w19)) 3 rfl ?_
          refine e_Ok.getf (z := t) rfl (el_o rfl) rfl rfl (e_uq hw19 (Or.inl (by first | decide | exact e_neo (by decide) | exact e_ne1 (by decide) | exact e_ne2 (by decide) | omega)) (e_uq hw15 (Or.inr (by first | decide | exact e_neo (by decide) | exact e_ne1 (by decide) | exact e_ne2 (by decide) | omega)) (e_uq hw11 (Or.inl (by first | decide | exact e_neo (by decide) | exact e_ne1 (by decide) | exact e_ne2 (by decide) | omega)) (e_uq hw6 (Or.inl (by first | decide | exact e_neo (by decide) | exact e_ne1 (by decide) | exact e_ne2 (by decide) | omega)) h96)))) (by omega) ?_
          refine e_Ok.run (t' := (229, [(3, (0, 0)), (0, (1, 275)), (1, (0, x)), (2, (0, y))], [(0, 0), (0, t), (0, 4), (1, 275)], w19)) 1 rfl ?_
          have e25 : w19 276 5 = w 276 5 := (e_uq hw19 (Or.inr (by first | decide | exact e_neo (by decide) | exact e_ne1 (by decide) | exact e_ne2 (by decide) | omega)) (e_uq hw15 (Or.inl (by first | decide | exact e_neo (by decide) | exact e_ne1 (by decide) | exact e_ne2 (by decide) | omega)) (e_uq hw11 (Or.inr (by first | decide | exact e_neo (by decide) | exact e_ne1 (by decide) | exact e_ne2 (by decide) | omega)) (e_uq hw6 (Or.inr (by first | decide | exact e_neo (by decide) | exact e_ne1 (by decide) | exact e_ne2 (by decide) | omega)) rfl))))
          refine e_Ok.callV rfl (by first | exact e_dq hd rfl | omega) rfl rfl rfl rfl (c_319 hT21 (by omega) (by omega) (by omega) (by omega)) (fun r22 w23 h24 => ?_)
          obtain ⟨rfl, q26, q26T, q26n⟩ := h24
          have f27 : e_fr (mLv t) w w23 := e_fr.trans f20 (e_fr.mono q26 (fun c k q => by first | exact su_59_7 q | (unfold mE at q; unfold mLv; omega)))
          show e_Ok 20 elay ecode eI (d + 1) 372 (232, [(3, (0, 0)), (0, (1, 275)), (1, (0, x)), (2, (0, y))], [], w23) _
          refine e_Ok.run (t' := (234, [(3, (0, 0)), (0, (1, 275)), (1, (0, x)), (2, (0, y))], [(1, 275), (1, 275)], w23)) 2 rfl ?_
          refine e_Ok.getf (z := t) rfl (el_o rfl) rfl rfl ((q26 275 96 no_59_0).trans (e_uq hw19 (Or.inl (by first | decide | exact e_neo (by decide) | exact e_ne1 (by decide) | exact e_ne2 (by decide) | omega)) (e_uq hw15 (Or.inr (by first | decide | exact e_neo (by decide) | exact e_ne1 (by decide) | exact e_ne2 (by decide) | omega)) (e_uq hw11 (Or.inl (by first | decide | exact e_neo (by decide) | exact e_ne1 (by decide) | exact e_ne2 (by decide) | omega)) (e_uq hw6 (Or.inl (by first | decide | exact e_neo (by decide) | exact e_ne1 (by decide) | exact e_ne2 (by decide) | omega)) h96))))) (by omega) ?_
          refine e_Ok.callV rfl (by first | exact e_dq hd rfl | omega) rfl rfl rfl rfl (c_361 (by first | exact e_dq hd rfl | omega) q26T) (fun r28 w29 h30 => ?_)
          obtain ⟨rfl, q31, q31T⟩ := h30
          have f32 : e_fr (mLv t) w w29 := e_fr.trans f27 (e_fr.mono q31 (fun c k q => by first | exact su_59_8 q | (unfold mLk at q; unfold mLv; omega)))
          show e_Ok 20 elay ecode eI (d + 1) 372 (240, [(3, (0, 0)), (0, (1, 275)), (1, (0, x)), (2, (0, y))], [], w29) _
          refine e_Ok.run (t' := (242, [(3, (0, 0)), (0, (1, 275)), (1, (0, x)), (2, (0, y))], [(0, (-2))], w29)) 1 rfl ?_
          refine e_Ok.rets rfl rfl ?_
          have e33 : w29 276 5 = w23 276 5 := ((q31 276 5 no_59_1).trans rfl)
          have est : w29 276 (1260 * t + 416) = 6 := ((q31 276 (1260 * t + 416) (by first | exact no_59_2 (by omega) | (unfold mLk; omega))).trans ((q26 276 (1260 * t + 416) (by first | exact no_59_3 (by omega) | (unfold mE; omega))).trans (e_ue hw19)))
          exact ⟨_, rfl, ⟨f32, (sRel.fr (sRel.fr (sRel.up (sRel.up (sRel.up (sRel.up sRel.refl hw6 (fun q b g1 g2 => by omega)) hw11 (fun q b g1 g2 => by omega)) hw15 (fun q b g1 g2 => by omega)) hw19 (fun q b g1 g2 => by omega)) q26 (fun b g1 g2 => by unfold mE; omega)) q31 (fun b g1 g2 => by unfold mLk; omega))⟩, q31T, by omega, ((q31 275 102 no_59_4).trans ((q26 275 102 no_59_0).trans (e_uq hw19 (Or.inl (by first | decide | exact e_neo (by decide) | exact e_ne1 (by decide) | exact e_ne2 (by decide) | omega)) (e_uq hw15 (Or.inr (by first | decide | exact e_neo (by decide) | exact e_ne1 (by decide) | exact e_ne2 (by decide) | omega)) (e_uq hw11 (Or.inl (by first | decide | exact e_neo (by decide) | exact e_ne1 (by decide) | exact e_ne2 (by decide) | omega)) (e_uq hw6 (Or.inl (by first | decide | exact e_neo (by decide) | exact e_ne1 (by decide) | exact e_ne2 (by decide) | omega)) rfl)))))), Or.inr (Or.inr ⟨by omega, rfl, ((q31 275 100 no_59_4).trans ((q26 275 100 no_59_0).trans (e_uq hw19 (Or.inl (by first | decide | exact e_neo (by decide) | exact e_ne1 (by decide) | exact e_ne2 (by decide) | omega)) (e_ue hw15)))), by omega⟩)⟩
        · replace h18 : (x : Int) = 1 := Classical.not_not.mp (show ¬ ((x : Int) ≠ 1) from h18)
          refine e_Ok.run (t' := (142, [(3, (0, 0)), (0, (1, 275)), (1, (0, x)), (2, (0, y))], [(1, 275)], w15)) 1 rfl ?_
          refine e_Ok.getr (z := 276) rfl (el_o rfl) rfl rfl (e_uq hw15 (Or.inr (by first | decide | exact e_neo (by decide) | exact e_ne1 (by decide) | exact e_ne2 (by decide) | omega)) (e_uq hw11 (Or.inl (by first | decide | exact e_neo (by decide) | exact e_ne1 (by decide) | exact e_ne2 (by decide) | omega)) (e_uq hw6 (Or.inl (by first | decide | exact e_neo (by decide) | exact e_ne1 (by decide) | exact e_ne2 (by decide) | omega)) (e_Has.eq hT rfl)))) ⟨by decide, by decide⟩ ?_
          refine e_Ok.run (t' := (146, [(3, (0, 0)), (0, (1, 275)), (1, (0, x)), (2, (0, y))], [(1, 275), (1, 276)], w15)) 1 rfl ?_
          refine e_Ok.getf (z := 1260 * t + 416) rfl (el_o rfl) rfl rfl (e_uq hw15 (Or.inr (by first | decide | exact e_neo (by decide) | exact e_ne1 (by decide) | exact e_ne2 (by decide) | omega)) (e_uq hw11 (Or.inl (by first | decide | exact e_neo (by decide) | exact e_ne1 (by decide) | exact e_ne2 (by decide) | omega)) (e_uq hw6 (Or.inl (by first | decide | exact e_neo (by decide) | exact e_ne1 (by decide) | exact e_ne2 (by decide) | omega)) h97))) (by omega) ?_
          refine e_Ok.run (t' := (151, [(3, (0, 0)), (0, (1, 275)), (1, (0, x)), (2, (0, y))], [(0, 7), (0, 1260 * t + 416), (1, 276)], w15)) 1 rfl ?_
          refine e_Ok.ast rfl (el_o rfl) rfl rfl (by omega) ?_
          generalize hw34 : e_up w15 276 (1260 * t + 416) 7 = w34
          have f35 : e_fr (mLv t) w w34 := e_fr.up f16 hw34 (by first | exact Or.inr ⟨rfl, Or.inr (Or.inr (Or.inr (Or.inr (Or.inr (Or.inl (by omega))))))⟩ | (unfold mLv; omega))
          have hT36 : e_Has mTy w34 := e_Has.upr hT17 hw34 (nR_TSTATE (t := t) (by omega)) (by omega)
          refine e_Ok.run (t' := (153, [(3, (0, 0)), (0, (1, 275)), (1, (0, x)), (2, (0, y))], [(1, 275)], w34)) 1 rfl ?_
          refine e_Ok.getr (z := 276) rfl (el_o rfl) rfl rfl (e_uq hw34 (Or.inl (by first | decide | exact e_neo (by decide) | exact e_ne1 (by decide) | exact e_ne2 (by decide) | omega)) (e_uq hw15 (Or.inr (by first | decide | exact e_neo (by decide) | exact e_ne1 (by decide) | exact e_ne2 (by decide) | omega)) (e_uq hw11 (Or.inl (by first | decide | exact e_neo (by decide) | exact e_ne1 (by decide) | exact e_ne2 (by decide) | omega)) (e_uq hw6 (Or.inl (by first | decide | exact e_neo (by decide) | exact e_ne1 (by decide) | exact e_ne2 (by decide) | omega)) (e_Has.eq hT rfl))))) ⟨by decide, by decide⟩ ?_
          refine e_Ok.run (t' := (157, [(3, (0, 0)), (0, (1, 275)), (1, (0, x)), (2, (0, y))], [(1, 275), (1, 276)], w34)) 1 rfl ?_
          refine e_Ok.getf (z := 1260 * t + 416) rfl (el_o rfl) rfl rfl (e_uq hw34 (Or.inl (by first | decide | exact e_neo (by decide) | exact e_ne1 (by decide) | exact e_ne2 (by decide) | omega)) (e_uq hw15 (Or.inr (by first | decide | exact e_neo (by decide) | exact e_ne1 (by decide) | exact e_ne2 (by decide) | omega)) (e_uq hw11 (Or.inl (by first | decide | exact e_neo (by decide) | exact e_ne1 (by decide) | exact e_ne2 (by decide) | omega)) (e_uq hw6 (Or.inl (by first | decide | exact e_neo (by decide) | exact e_ne1 (by decide) | exact e_ne2 (by decide) | omega)) h97)))) (by omega) ?_
          refine e_Ok.run (t' := (161, [(3, (0, 0)), (0, (1, 275)), (1, (0, x)), (2, (0, y))], [(0, 2), (0, 1260 * t + 416), (1, 276)], w34)) 1 rfl ?_
          refine e_Ok.add (z := 1260 * t + 418) rfl (by first | with_reducible rfl | exact Int.add_comm _ _ | omega) (by omega) ?_
          refine e_Ok.run (t' := (163, [(3, (0, 0)), (0, (1, 275)), (1, (0, x)), (2, (0, y))], [(0, y), (0, 1260 * t + 418), (1, 276)], w34)) 1 rfl ?_
          refine e_Ok.ast rfl (el_o rfl) rfl rfl (by omega) ?_
          generalize hw37 : e_up w34 276 (1260 * t + 418) y = w37
          have f38 : e_fr (mLv t) w w37 := e_fr.up f35 hw37 (by first | exact Or.inr ⟨rfl, Or.inr (Or.inr (Or.inr (Or.inr (Or.inr (Or.inr (Or.inl (by omega)))))))⟩ | (unfold mLv; omega))
          have hT39 : e_Has mTy w37 := e_Has.upr hT36 hw37 (nR_FAULT (t := t) (by omega)) (by omega)
          refine e_Ok.run (t' := (165, [(3, (0, 0)), (0, (1, 275)), (1, (0, x)), (2, (0, y))], [(1, 275)], w37)) 1 rfl ?_
          refine e_Ok.getr (z := 276) rfl (el_o rfl) rfl rfl (e_uq hw37 (Or.inl (by first | decide | exact e_neo (by decide) | exact e_ne1 (by decide) | exact e_ne2 (by decide) | omega)) (e_uq hw34 (Or.inl (by first | decide | exact e_neo (by decide) | exact e_ne1 (by decide) | exact e_ne2 (by decide) | omega)) (e_uq hw15 (Or.inr (by first | decide | exact e_neo (by decide) | exact e_ne1 (by decide) | exact e_ne2 (by decide) | omega)) (e_uq hw11 (Or.inl (by first | decide | exact e_neo (by decide) | exact e_ne1 (by decide) | exact e_ne2 (by decide) | omega)) (e_uq hw6 (Or.inl (by first | decide | exact e_neo (by decide) | exact e_ne1 (by decide) | exact e_ne2 (by decide) | omega)) (e_Has.eq hT rfl)))))) ⟨by decide, by decide⟩ ?_
          refine e_Ok.run (t' := (169, [(3, (0, 0)), (0, (1, 275)), (1, (0, x)), (2, (0, y))], [(1, 275), (1, 276)], w37)) 1 rfl ?_
          refine e_Ok.getf (z := a) rfl (el_o rfl) rfl rfl (e_uq hw37 (Or.inl (by first | decide | exact e_neo (by decide) | exact e_ne1 (by decide) | exact e_ne2 (by decide) | omega)) (e_uq hw34 (Or.inl (by first | decide | exact e_neo (by decide) | exact e_ne1 (by decide) | exact e_ne2 (by decide) | omega)) (e_uq hw15 (Or.inr (by first | decide | exact e_neo (by decide) | exact e_ne1 (by decide) | exact e_ne2 (by decide) | omega)) (e_uq hw11 (Or.inl (by first | decide | exact e_neo (by decide) | exact e_ne1 (by decide) | exact e_ne2 (by decide) | omega)) (e_uq hw6 (Or.inl (by first | decide | exact e_neo (by decide) | exact e_ne1 (by decide) | exact e_ne2 (by decide) | omega)) h98))))) (by omega) ?_
          refine e_Ok.callS rfl (by first | exact e_dq hd rfl | omega) rfl rfl (c_268 (by omega)) (fun r40 w41 h42 => ?_)
          obtain ⟨rfl, rfl⟩ := h42
          show e_Ok 20 elay ecode eI (d + 1) 372 (175, [(3, (0, 0)), (0, (1, 275)), (1, (0, x)), (2, (0, y))], [(0, 36 * a + 16), (1, 276)], w37) _
          refine e_Ok.run (t' := (176, [(3, (0, 0)), (0, (1, 275)), (1, (0, x)), (2, (0, y))], [(0, 2), (0, 36 * a + 16), (1, 276)], w37)) 1 rfl ?_
          refine e_Ok.add (z := 36 * a + 18) rfl (by first | with_reducible rfl | exact Int.add_comm _ _ | omega) (by omega) ?_
          refine e_Ok.run (t' := (178, [(3, (0, 0)), (0, (1, 275)), (1, (0, x)), (2, (0, y))], [(1, 275), (0, 36 * a + 18), (1, 276)], w37)) 1 rfl ?_
          refine e_Ok.getf (z := t) rfl (el_o rfl) rfl rfl (e_uq hw37 (Or.inl (by first | decide | exact e_neo (by decide) | exact e_ne1 (by decide) | exact e_ne2 (by decide) | omega)) (e_uq hw34 (Or.inl (by first | decide | exact e_neo (by decide) | exact e_ne1 (by decide) | exact e_ne2 (by decide) | omega)) (e_uq hw15 (Or.inr (by first | decide | exact e_neo (by decide) | exact e_ne1 (by decide) | exact e_ne2 (by decide) | omega)) (e_uq hw11 (Or.inl (by first | decide | exact e_neo (by decide) | exact e_ne1 (by decide) | exact e_ne2 (by decide) | omega)) (e_uq hw6 (Or.inl (by first | decide | exact e_neo (by decide) | exact e_ne1 (by decide) | exact e_ne2 (by decide) | omega)) h96))))) (by omega) ?_
          refine e_Ok.ast rfl (el_o rfl) rfl rfl (by omega) ?_
          generalize hw43 : e_up w37 276 (36 * a + 18) t = w43
          have f44 : e_fr (mLv t) w w43 := e_fr.up f38 hw43 (by first | exact Or.inr ⟨rfl, Or.inr (Or.inr (Or.inr (Or.inl ⟨(by omega), ⟨(by omega), Or.inr (Or.inl (by omega))⟩⟩)))⟩ | (unfold mLv; omega))
          have hT45 : e_Has mTy w43 := e_Has.upr hT39 hw43 (nR_STUCK (a := a) (by omega)) (by omega)
          refine e_Ok.run (t' := (185, [(3, (0, 0)), (0, (1, 275)), (1, (0, x)), (2, (0, y))], [(1, 275), (0, 5), (1, 275)], w43)) 3 rfl ?_
          refine e_Ok.getf (z := t) rfl (el_o rfl) rfl rfl (e_uq hw43 (Or.inl (by first | decide | exact e_neo (by decide) | exact e_ne1 (by decide) | exact e_ne2 (by decide) | omega)) (e_uq hw37 (Or.inl (by first | decide | exact e_neo (by decide) | exact e_ne1 (by decide) | exact e_ne2 (by decide) | omega)) (e_uq hw34 (Or.inl (by first | decide | exact e_neo (by decide) | exact e_ne1 (by decide) | exact e_ne2 (by decide) | omega)) (e_uq hw15 (Or.inr (by first | decide | exact e_neo (by decide) | exact e_ne1 (by decide) | exact e_ne2 (by decide) | omega)) (e_uq hw11 (Or.inl (by first | decide | exact e_neo (by decide) | exact e_ne1 (by decide) | exact e_ne2 (by decide) | omega)) (e_uq hw6 (Or.inl (by first | decide | exact e_neo (by decide) | exact e_ne1 (by decide) | exact e_ne2 (by decide) | omega)) h96)))))) (by omega) ?_
          refine e_Ok.run (t' := (189, [(3, (0, 0)), (0, (1, 275)), (1, (0, x)), (2, (0, y))], [(0, y), (0, t), (0, 5), (1, 275)], w43)) 1 rfl ?_
          have e49 : w43 276 5 = w 276 5 := (e_uq hw43 (Or.inr (by first | decide | exact e_neo (by decide) | exact e_ne1 (by decide) | exact e_ne2 (by decide) | omega)) (e_uq hw37 (Or.inr (by first | decide | exact e_neo (by decide) | exact e_ne1 (by decide) | exact e_ne2 (by decide) | omega)) (e_uq hw34 (Or.inr (by first | decide | exact e_neo (by decide) | exact e_ne1 (by decide) | exact e_ne2 (by decide) | omega)) (e_uq hw15 (Or.inl (by first | decide | exact e_neo (by decide) | exact e_ne1 (by decide) | exact e_ne2 (by decide) | omega)) (e_uq hw11 (Or.inr (by first | decide | exact e_neo (by decide) | exact e_ne1 (by decide) | exact e_ne2 (by decide) | omega)) (e_uq hw6 (Or.inr (by first | decide | exact e_neo (by decide) | exact e_ne1 (by decide) | exact e_ne2 (by decide) | omega)) rfl))))))
          refine e_Ok.callV rfl (by first | exact e_dq hd rfl | omega) rfl rfl rfl rfl (c_319 hT45 (by omega) (by omega) (by omega) (by omega)) (fun r46 w47 h48 => ?_)
          obtain ⟨rfl, q50, q50T, q50n⟩ := h48
          have f51 : e_fr (mLv t) w w47 := e_fr.trans f44 (e_fr.mono q50 (fun c k q => by first | exact su_59_7 q | (unfold mE at q; unfold mLv; omega)))
          show e_Ok 20 elay ecode eI (d + 1) 372 (192, [(3, (0, 0)), (0, (1, 275)), (1, (0, x)), (2, (0, y))], [], w47) _
          refine e_Ok.run (t' := (194, [(3, (0, 0)), (0, (1, 275)), (1, (0, x)), (2, (0, y))], [(1, 275), (1, 275)], w47)) 2 rfl ?_
          refine e_Ok.getf (z := t) rfl (el_o rfl) rfl rfl ((q50 275 96 no_59_0).trans (e_uq hw43 (Or.inl (by first | decide | exact e_neo (by decide) | exact e_ne1 (by decide) | exact e_ne2 (by decide) | omega)) (e_uq hw37 (Or.inl (by first | decide | exact e_neo (by decide) | exact e_ne1 (by decide) | exact e_ne2 (by decide) | omega)) (e_uq hw34 (Or.inl (by first | decide | exact e_neo (by decide) | exact e_ne1 (by decide) | exact e_ne2 (by decide) | omega)) (e_uq hw15 (Or.inr (by first | decide | exact e_neo (by decide) | exact e_ne1 (by decide) | exact e_ne2 (by decide) | omega)) (e_uq hw11 (Or.inl (by first | decide | exact e_neo (by decide) | exact e_ne1 (by decide) | exact e_ne2 (by decide) | omega)) (e_uq hw6 (Or.inl (by first | decide | exact e_neo (by decide) | exact e_ne1 (by decide) | exact e_ne2 (by decide) | omega)) h96))))))) (by omega) ?_
          refine e_Ok.callV rfl (by first | exact e_dq hd rfl | omega) rfl rfl rfl rfl (c_361 (by first | exact e_dq hd rfl | omega) q50T) (fun r52 w53 h54 => ?_)
          obtain ⟨rfl, q55, q55T⟩ := h54
          have f56 : e_fr (mLv t) w w53 := e_fr.trans f51 (e_fr.mono q55 (fun c k q => by first | exact su_59_8 q | (unfold mLk at q; unfold mLv; omega)))
          show e_Ok 20 elay ecode eI (d + 1) 372 (200, [(3, (0, 0)), (0, (1, 275)), (1, (0, x)), (2, (0, y))], [], w53) _
          refine e_Ok.run (t' := (202, [(3, (0, 0)), (0, (1, 275)), (1, (0, x)), (2, (0, y))], [(1, 275), (1, 275)], w53)) 2 rfl ?_
          refine e_Ok.getf (z := a) rfl (el_o rfl) rfl rfl ((q55 275 98 no_59_4).trans ((q50 275 98 no_59_0).trans (e_uq hw43 (Or.inl (by first | decide | exact e_neo (by decide) | exact e_ne1 (by decide) | exact e_ne2 (by decide) | omega)) (e_uq hw37 (Or.inl (by first | decide | exact e_neo (by decide) | exact e_ne1 (by decide) | exact e_ne2 (by decide) | omega)) (e_uq hw34 (Or.inl (by first | decide | exact e_neo (by decide) | exact e_ne1 (by decide) | exact e_ne2 (by decide) | omega)) (e_uq hw15 (Or.inr (by first | decide | exact e_neo (by decide) | exact e_ne1 (by decide) | exact e_ne2 (by decide) | omega)) (e_uq hw11 (Or.inl (by first | decide | exact e_neo (by decide) | exact e_ne1 (by decide) | exact e_ne2 (by decide) | omega)) (e_uq hw6 (Or.inl (by first | decide | exact e_neo (by decide) | exact e_ne1 (by decide) | exact e_ne2 (by decide) | omega)) h98)))))))) (by omega) ?_
          have e60 : w53 276 5 = w47 276 5 := ((q55 276 5 no_59_1).trans rfl)
          refine e_Ok.callV rfl (by first | exact e_dq hd rfl | omega) rfl rfl rfl rfl (c_384 (by first | exact e_dq hd rfl | omega) q55T (by omega) (by omega)) (fun r57 w58 h59 => ?_)
          obtain ⟨rfl, q61, q61T, q61n, q61s⟩ := h59
          have f62 : e_fr (mLv t) w w58 := e_fr.trans f56 (e_fr.mono q61 (fun c k q => by first | exact su_59_9 q | (unfold mBr at q; unfold mLv; omega)))
          show e_Ok 20 elay ecode eI (d + 1) 372 (208, [(3, (0, 0)), (0, (1, 275)), (1, (0, x)), (2, (0, y))], [], w58) _
          refine e_Ok.run (t' := (242, [(3, (0, 0)), (0, (1, 275)), (1, (0, x)), (2, (0, y))], [(0, (-2))], w58)) 2 rfl ?_
          refine e_Ok.rets rfl rfl ?_
          have e63 : w58 276 5 = w58 276 5 := rfl
          have est : w58 276 (1260 * t + 416) = 7 := ((q61 276 (1260 * t + 416) (by first | exact no_59_5 (by omega) | (unfold mBr; omega))).trans ((q55 276 (1260 * t + 416) (by first | exact no_59_2 (by omega) | (unfold mLk; omega))).trans ((q50 276 (1260 * t + 416) (by first | exact no_59_3 (by omega) | (unfold mE; omega))).trans (e_uq hw43 (Or.inr (by first | decide | exact e_neo (by decide) | exact e_ne1 (by decide) | exact e_ne2 (by decide) | omega)) (e_uq hw37 (Or.inr (by first | decide | exact e_neo (by decide) | exact e_ne1 (by decide) | exact e_ne2 (by decide) | omega)) (e_ue hw34))))))
          exact ⟨_, rfl, ⟨f62, (sRel.trans (sRel.fr (sRel.fr (sRel.up (sRel.up (sRel.up (sRel.up (sRel.up (sRel.up sRel.refl hw6 (fun q b g1 g2 => by omega)) hw11 (fun q b g1 g2 => by omega)) hw15 (fun q b g1 g2 => by omega)) hw34 (fun q b g1 g2 => by omega)) hw37 (fun q b g1 g2 => by omega)) hw43 (fun q b g1 g2 => by omega)) q50 (fun b g1 g2 => by unfold mE; omega)) q55 (fun b g1 g2 => by unfold mLk; omega)) q61s)⟩, q61T, by omega, ((q61 275 102 no_59_6).trans ((q55 275 102 no_59_4).trans ((q50 275 102 no_59_0).trans (e_uq hw43 (Or.inl (by first | decide | exact e_neo (by decide) | exact e_ne1 (by decide) | exact e_ne2 (by decide) | omega)) (e_uq hw37 (Or.inl (by first | decide | exact e_neo (by decide) | exact e_ne1 (by decide) | exact e_ne2 (by decide) | omega)) (e_uq hw34 (Or.inl (by first | decide | exact e_neo (by decide) | exact e_ne1 (by decide) | exact e_ne2 (by decide) | omega)) (e_uq hw15 (Or.inr (by first | decide | exact e_neo (by decide) | exact e_ne1 (by decide) | exact e_ne2 (by decide) | omega)) (e_uq hw11 (Or.inl (by first | decide | exact e_neo (by decide) | exact e_ne1 (by decide) | exact e_ne2 (by decide) | omega)) (e_uq hw6 (Or.inl (by first | decide | exact e_neo (by decide) | exact e_ne1 (by decide) | exact e_ne2 (by decide) | omega)) rfl))))))))), Or.inr (Or.inr ⟨by omega, rfl, ((q61 275 100 no_59_6).trans ((q55 275 100 no_59_4).trans ((q50 275 100 no_59_0).trans (e_uq hw43 (Or.inl (by first | decide | exact e_neo (by decide) | exact e_ne1 (by decide) | exact e_ne2 (by decide) | omega)) (e_uq hw37 (Or.inl (by first | decide | exact e_neo (by decide) | exact e_ne1 (by decide) | exact e_ne2 (by decide) | omega)) (e_uq hw34 (Or.inl (by first | decide | exact e_neo (by decide) | exact e_ne1 (by decide) | exact e_ne2 (by decide) | omega)) (e_ue hw15))))))), by omega⟩)⟩
      · replace h14 : (g : Int) > 0 := Int.not_le.mp (show ¬ ((g : Int) ≤ 0) from h14)
        refine e_Ok.run (t' := (78, [(3, (0, 0)), (0, (1, 275)), (1, (0, x)), (2, (0, y))], [(0, 1), (0, x)], w11)) 2 rfl ?_
        refine e_Ok.if2 rfl (fun h64 => ?_) (fun h64 => ?_)
        · replace h64 : (x : Int) ≠ 1 := h64
          have hlt := hlow.top (by omega)
          have hn := hC.1
          have hlt2 := hlt.2.2.2.1 (by omega)
          unfold iFT at hlt2
          refine e_Ok.run (t' := (107, [(3, (0, 0)), (0, (1, 275)), (1, (0, x)), (2, (0, y))], [(1, 275), (1, 275)], w11)) 2 rfl ?_
          refine e_Ok.getr (z := 276) rfl (el_o rfl) rfl rfl (e_uq hw11 (Or.inl (by first | decide | exact e_neo (by decide) | exact e_ne1 (by decide) | exact e_ne2 (by decide) | omega)) (e_uq hw6 (Or.inl (by first | decide | exact e_neo (by decide) | exact e_ne1 (by decide) | exact e_ne2 (by decide) | omega)) (e_Has.eq hT rfl))) ⟨by decide, by decide⟩ ?_
          refine e_Ok.run (t' := (111, [(3, (0, 0)), (0, (1, 275)), (1, (0, x)), (2, (0, y))], [(1, 275), (1, 276), (1, 275)], w11)) 1 rfl ?_
          refine e_Ok.callV rfl (by first | exact e_dq hd rfl | omega) rfl rfl rfl rfl (c_362 hT13 (by omega) (e_uq hw11 (Or.inl (by first | decide | exact e_neo (by decide) | exact e_ne1 (by decide) | exact e_ne2 (by decide) | omega)) (e_uq hw6 (Or.inl (by first | decide | exact e_neo (by decide) | exact e_ne1 (by decide) | exact e_ne2 (by decide) | omega)) h97)) (f := g) (z := 1260 * t + 2 * g + 434) (e_uq hw11 (Or.inr (by first | decide | exact e_neo (by decide) | exact e_ne1 (by decide) | exact e_ne2 (by decide) | omega)) (e_ue hw6)) (by omega) (by omega)) (fun r65 w66 h67 => ?_)
          obtain ⟨rfl, rfl⟩ := h67
          show e_Ok 20 elay ecode eI (d + 1) 372 (114, [(3, (0, 0)), (0, (1, 275)), (1, (0, x)), (2, (0, y))], [(0, 1260 * t + 2 * g + 434), (1, 276), (1, 275)], w11) _
          have h68 := (e_Has.get hT (c := 276) (k := 1260 * t + 2 * g + 434) (lo := 0) (hi := 9999) (nR_FRg t (g - 1) (by omega) (by omega) (by omega)) (by decide))
          refine e_Ok.ald (z := w 276 (1260 * t + 2 * g + 434)) rfl (el_o rfl) rfl (by omega) (e_uq hw11 (Or.inr (by first | decide | exact e_neo (by decide) | exact e_ne1 (by decide) | exact e_ne2 (by decide) | omega)) (e_uq hw6 (Or.inr (by first | decide | exact e_neo (by decide) | exact e_ne1 (by decide) | exact e_ne2 (by decide) | omega)) rfl)) (by first | exact e_bq h68 (by decide) (by decide) | omega) ?_
          refine e_Ok.run (t' := (116, [(3, (0, 0)), (0, (1, 275)), (1, (0, x)), (2, (0, y))], [(0, 0), (0, w 276 (1260 * t + 2 * g + 434)), (1, 275)], w11)) 1 rfl ?_
          refine e_Ok.if1 rfl (fun h69 => ?_) (fun h69 => ?_)
          · replace h69 : (0 : Int) = 0 := h69
            refine e_Ok.run (t' := (124, [(3, (0, 0)), (0, (1, 275)), (1, (0, x)), (2, (0, y))], [(0, 1), (0, w 276 (1260 * t + 2 * g + 434)), (1, 275)], w11)) 1 rfl ?_
            refine e_Ok.add (z := w 276 (1260 * t + 2 * g + 434) + 1) rfl (by first | with_reducible rfl | exact Int.add_comm _ _ | omega) (by omega) ?_
            refine e_Ok.callV rfl (by first | exact e_dq hd rfl | omega) rfl rfl rfl rfl (c_365 (by first | exact e_dq hd rfl | omega) hT13 (by omega) (e_uq hw11 (Or.inl (by first | decide | exact e_neo (by decide) | exact e_ne1 (by decide) | exact e_ne2 (by decide) | omega)) (e_uq hw6 (Or.inl (by first | decide | exact e_neo (by decide) | exact e_ne1 (by decide) | exact e_ne2 (by decide) | omega)) h97)) (f := g) (z := 1260 * t + 2 * g + 434) (e_uq hw11 (Or.inr (by first | decide | exact e_neo (by decide) | exact e_ne1 (by decide) | exact e_ne2 (by decide) | omega)) (e_ue hw6)) (by omega) (by omega)) (fun r70 w71 h72 => ?_)
            obtain ⟨rfl, hw71⟩ := h72
            have f73 : e_fr (mLv t) w w71 := e_fr.up f12 hw71 (by first | exact Or.inr ⟨rfl, Or.inr (Or.inr (Or.inr (Or.inr (Or.inr (Or.inr (Or.inr (Or.inr (Or.inr ⟨(by omega), (by omega)⟩))))))))⟩ | (unfold mLv; omega))
            have hT74 : e_Has mTy w71 := e_Has.upr hT13 hw71 (nR_FRg t (g - 1) (by omega) (by omega) (by omega)) (by omega)
            show e_Ok 20 elay ecode eI (d + 1) 372 (128, [(3, (0, 0)), (0, (1, 275)), (1, (0, x)), (2, (0, y))], [], w71) _
            refine e_Ok.run (t' := (130, [(3, (0, 0)), (0, (1, 275)), (1, (0, x)), (2, (0, y))], [(0, (-2))], w71)) 1 rfl ?_
            refine e_Ok.rets rfl rfl ?_
            have e75 : w71 276 5 = w 276 5 := (e_uq hw71 (Or.inr (by first | decide | exact e_neo (by decide) | exact e_ne1 (by decide) | exact e_ne2 (by decide) | omega)) (e_uq hw11 (Or.inr (by first | decide | exact e_neo (by decide) | exact e_ne1 (by decide) | exact e_ne2 (by decide) | omega)) (e_uq hw6 (Or.inr (by first | decide | exact e_neo (by decide) | exact e_ne1 (by decide) | exact e_ne2 (by decide) | omega)) rfl)))
            have hru := runOk.pop (w' := w71) hC hR (by omega) (fun c k q1 q2 => (e_uq hw71 (Or.inl (by first | decide | exact e_neo (by decide) | exact e_ne1 (by decide) | exact e_ne2 (by decide) | omega)) (e_uq hw11 (Or.inl (by first | decide | exact e_neo (by decide) | exact e_ne1 (by decide) | exact e_ne2 (by decide) | omega)) (e_uq hw6 (Or.inl (by first | decide | exact e_neo (by decide) | exact e_ne1 (by decide) | exact e_ne2 (by decide) | omega)) rfl)))) (fun i q1 q2 => ⟨(e_uq hw71 (Or.inr (by first | decide | exact e_neo (by decide) | exact e_ne1 (by decide) | exact e_ne2 (by decide) | omega)) (e_uq hw11 (Or.inr (by first | decide | exact e_neo (by decide) | exact e_ne1 (by decide) | exact e_ne2 (by decide) | omega)) (e_uq hw6 (Or.inr (by first | decide | exact e_neo (by decide) | exact e_ne1 (by decide) | exact e_ne2 (by decide) | omega)) rfl))), (e_uq hw71 (Or.inr (by first | decide | exact e_neo (by decide) | exact e_ne1 (by decide) | exact e_ne2 (by decide) | omega)) (e_uq hw11 (Or.inr (by first | decide | exact e_neo (by decide) | exact e_ne1 (by decide) | exact e_ne2 (by decide) | omega)) (e_uq hw6 (Or.inr (by first | decide | exact e_neo (by decide) | exact e_ne1 (by decide) | exact e_ne2 (by decide) | omega)) rfl)))⟩) (e_uq hw71 (Or.inr (by first | decide | exact e_neo (by decide) | exact e_ne1 (by decide) | exact e_ne2 (by decide) | omega)) (e_uq hw11 (Or.inr (by first | decide | exact e_neo (by decide) | exact e_ne1 (by decide) | exact e_ne2 (by decide) | omega)) (e_ue hw6))) (e_uq hw71 (Or.inr (by first | decide | exact e_neo (by decide) | exact e_ne1 (by decide) | exact e_ne2 (by decide) | omega)) (e_uq hw11 (Or.inr (by first | decide | exact e_neo (by decide) | exact e_ne1 (by decide) | exact e_ne2 (by decide) | omega)) (e_uq hw6 (Or.inr (by first | decide | exact e_neo (by decide) | exact e_ne1 (by decide) | exact e_ne2 (by decide) | omega)) rfl))) (fun k q1 q2 => (e_uq hw71 (Or.inr (by first | decide | exact e_neo (by decide) | exact e_ne1 (by decide) | exact e_ne2 (by decide) | omega)) (e_uq hw11 (Or.inr (by first | decide | exact e_neo (by decide) | exact e_ne1 (by decide) | exact e_ne2 (by decide) | omega)) (e_uq hw6 (Or.inr (by first | decide | exact e_neo (by decide) | exact e_ne1 (by decide) | exact e_ne2 (by decide) | omega)) rfl))))
            have evp : w71 276 (1260 * t + 2 * g + 434) = w 276 (1260 * t + 2 * g + 434) + 1 := (e_ue hw71)
            exact ⟨_, rfl, ⟨f73, (sRel.up (sRel.up (sRel.up sRel.refl hw6 (fun q b g1 g2 => by omega)) hw11 (fun q b g1 g2 => by omega)) hw71 (fun q b g1 g2 => by omega))⟩, hT74, by omega, (e_uq hw71 (Or.inl (by first | decide | exact e_neo (by decide) | exact e_ne1 (by decide) | exact e_ne2 (by decide) | omega)) (e_uq hw11 (Or.inl (by first | decide | exact e_neo (by decide) | exact e_ne1 (by decide) | exact e_ne2 (by decide) | omega)) (e_uq hw6 (Or.inl (by first | decide | exact e_neo (by decide) | exact e_ne1 (by decide) | exact e_ne2 (by decide) | omega)) rfl))), Or.inr (Or.inl ⟨by omega, by omega, rfl, w 276 (1260 * t + 2 * g + 434) + 1, runOk.at hru (by omega) (by rw [show 1260 * t + 2 * (g - 1) + 436 = 1260 * t + 2 * g + 434 by omega]; exact evp) (by rw [show w71 330 (10000 * a + (w 276 (1260 * t + 2 * g + 434) + 1)) = w 330 (10000 * a + w 276 (1260 * t + 2 * g + 434) + 1) from by rw [show 10000 * a + (w 276 (1260 * t + 2 * g + 434) + 1) = 10000 * a + w 276 (1260 * t + 2 * g + 434) + 1 by omega]; exact (e_uq hw71 (Or.inl (by first | decide | exact e_neo (by decide) | exact e_ne1 (by decide) | exact e_ne2 (by decide) | omega)) (e_uq hw11 (Or.inl (by first | decide | exact e_neo (by decide) | exact e_ne1 (by decide) | exact e_ne2 (by decide) | omega)) (e_uq hw6 (Or.inl (by first | decide | exact e_neo (by decide) | exact e_ne1 (by decide) | exact e_ne2 (by decide) | omega)) rfl)))]; exact hlt2.1.2), by omega, by omega, (e_uq hw71 (Or.inl (by first | decide | exact e_neo (by decide) | exact e_ne1 (by decide) | exact e_ne2 (by decide) | omega)) (e_uq hw11 (Or.inl (by first | decide | exact e_neo (by decide) | exact e_ne1 (by decide) | exact e_ne2 (by decide) | omega)) (e_uq hw6 (Or.inl (by first | decide | exact e_neo (by decide) | exact e_ne1 (by decide) | exact e_ne2 (by decide) | omega)) rfl))), by omega, (e_uq hw71 (Or.inr (by first | decide | exact e_neo (by decide) | exact e_ne1 (by decide) | exact e_ne2 (by decide) | omega)) (e_uq hw11 (Or.inr (by first | decide | exact e_neo (by decide) | exact e_ne1 (by decide) | exact e_ne2 (by decide) | omega)) (e_uq hw6 (Or.inr (by first | decide | exact e_neo (by decide) | exact e_ne1 (by decide) | exact e_ne2 (by decide) | omega)) rfl)))⟩)⟩
          · replace h69 : (0 : Int) ≠ 0 := (show ¬ ((0 : Int) = 0) from h69)
            exfalso; omega
        · replace h64 : (x : Int) = 1 := Classical.not_not.mp (show ¬ ((x : Int) ≠ 1) from h64)
          have hlt := hlow.top (by omega)
          refine e_Ok.run (t' := (82, [(3, (0, 0)), (0, (1, 275)), (1, (0, x)), (2, (0, y))], [(1, 275)], w11)) 1 rfl ?_
          refine e_Ok.getr (z := 330) rfl (el_o rfl) rfl rfl (e_uq hw11 (Or.inl (by first | decide | exact e_neo (by decide) | exact e_ne1 (by decide) | exact e_ne2 (by decide) | omega)) (e_uq hw6 (Or.inl (by first | decide | exact e_neo (by decide) | exact e_ne1 (by decide) | exact e_ne2 (by decide) | omega)) (e_Has.eq hT rfl))) ⟨by decide, by decide⟩ ?_
          refine e_Ok.run (t' := (89, [(3, (0, 0)), (0, (1, 275)), (1, (0, x)), (2, (0, y))], [(1, 275), (0, 10000), (1, 330)], w11)) 2 rfl ?_
          refine e_Ok.getf (z := a) rfl (el_o rfl) rfl rfl (e_uq hw11 (Or.inl (by first | decide | exact e_neo (by decide) | exact e_ne1 (by decide) | exact e_ne2 (by decide) | omega)) (e_uq hw6 (Or.inl (by first | decide | exact e_neo (by decide) | exact e_ne1 (by decide) | exact e_ne2 (by decide) | omega)) h98)) (by omega) ?_
          refine e_Ok.mul (z := 10000 * a) rfl (by first | with_reducible rfl | exact Int.add_comm _ _ | omega) (by omega) ?_
          refine e_Ok.run (t' := (94, [(3, (0, 0)), (0, (1, 275)), (1, (0, x)), (2, (0, y))], [(1, 275), (0, 10000 * a), (1, 330)], w11)) 1 rfl ?_
          refine e_Ok.getr (z := 276) rfl (el_o rfl) rfl rfl (e_uq hw11 (Or.inl (by first | decide | exact e_neo (by decide) | exact e_ne1 (by decide) | exact e_ne2 (by decide) | omega)) (e_uq hw6 (Or.inl (by first | decide | exact e_neo (by decide) | exact e_ne1 (by decide) | exact e_ne2 (by decide) | omega)) (e_Has.eq hT rfl))) ⟨by decide, by decide⟩ ?_
          refine e_Ok.run (t' := (98, [(3, (0, 0)), (0, (1, 275)), (1, (0, x)), (2, (0, y))], [(1, 275), (1, 276), (0, 10000 * a), (1, 330)], w11)) 1 rfl ?_
          refine e_Ok.callV rfl (by first | exact e_dq hd rfl | omega) rfl rfl rfl rfl (c_362 hT13 (by omega) (e_uq hw11 (Or.inl (by first | decide | exact e_neo (by decide) | exact e_ne1 (by decide) | exact e_ne2 (by decide) | omega)) (e_uq hw6 (Or.inl (by first | decide | exact e_neo (by decide) | exact e_ne1 (by decide) | exact e_ne2 (by decide) | omega)) h97)) (f := g) (z := 1260 * t + 2 * g + 434) (e_uq hw11 (Or.inr (by first | decide | exact e_neo (by decide) | exact e_ne1 (by decide) | exact e_ne2 (by decide) | omega)) (e_ue hw6)) (by omega) (by omega)) (fun r76 w77 h78 => ?_)
          obtain ⟨rfl, rfl⟩ := h78
          show e_Ok 20 elay ecode eI (d + 1) 372 (101, [(3, (0, 0)), (0, (1, 275)), (1, (0, x)), (2, (0, y))], [(0, 1260 * t + 2 * g + 434), (1, 276), (0, 10000 * a), (1, 330)], w11) _
          have h79 := (e_Has.get hT (c := 276) (k := 1260 * t + 2 * g + 434) (lo := 0) (hi := 9999) (nR_FRg t (g - 1) (by omega) (by omega) (by omega)) (by decide))
          refine e_Ok.ald (z := w 276 (1260 * t + 2 * g + 434)) rfl (el_o rfl) rfl (by omega) (e_uq hw11 (Or.inr (by first | decide | exact e_neo (by decide) | exact e_ne1 (by decide) | exact e_ne2 (by decide) | omega)) (e_uq hw6 (Or.inr (by first | decide | exact e_neo (by decide) | exact e_ne1 (by decide) | exact e_ne2 (by decide) | omega)) rfl)) (by first | exact e_bq h79 (by decide) (by decide) | omega) ?_
          refine e_Ok.add (z := 10000 * a + w 276 (1260 * t + 2 * g + 434)) rfl (by first | with_reducible rfl | exact Int.add_comm _ _ | omega) (by omega) ?_
          have h80 := (e_Has.get hT (c := 330) (k := 10000 * a + w 276 (1260 * t + 2 * g + 434)) (lo := (-2147483648)) (hi := 2147483647) rfl (by decide))
          refine e_Ok.ald (z := w 330 (10000 * a + w 276 (1260 * t + 2 * g + 434))) rfl rfl rfl (by omega) (e_uq hw11 (Or.inl (by first | decide | exact e_neo (by decide) | exact e_ne1 (by decide) | exact e_ne2 (by decide) | omega)) (e_uq hw6 (Or.inl (by first | decide | exact e_neo (by decide) | exact e_ne1 (by decide) | exact e_ne2 (by decide) | omega)) rfl)) (by first | exact e_bq h80 (by decide) (by decide) | omega) ?_
          refine e_Ok.rets rfl rfl ?_
          have e81 : w11 276 5 = w 276 5 := (e_uq hw11 (Or.inr (by first | decide | exact e_neo (by decide) | exact e_ne1 (by decide) | exact e_ne2 (by decide) | omega)) (e_uq hw6 (Or.inr (by first | decide | exact e_neo (by decide) | exact e_ne1 (by decide) | exact e_ne2 (by decide) | omega)) rfl))
          exact ⟨_, rfl, ⟨f12, (sRel.up (sRel.up sRel.refl hw6 (fun q b g1 g2 => by omega)) hw11 (fun q b g1 g2 => by omega))⟩, hT13, by omega, (e_uq hw11 (Or.inl (by first | decide | exact e_neo (by decide) | exact e_ne1 (by decide) | exact e_ne2 (by decide) | omega)) (e_uq hw6 (Or.inl (by first | decide | exact e_neo (by decide) | exact e_ne1 (by decide) | exact e_ne2 (by decide) | omega)) rfl)), Or.inl ⟨by omega, by omega, rfl, runOk.pop hC hR (by omega) (fun c k q1 q2 => (e_uq hw11 (Or.inl (by first | decide | exact e_neo (by decide) | exact e_ne1 (by decide) | exact e_ne2 (by decide) | omega)) (e_uq hw6 (Or.inl (by first | decide | exact e_neo (by decide) | exact e_ne1 (by decide) | exact e_ne2 (by decide) | omega)) rfl))) (fun i q1 q2 => ⟨(e_uq hw11 (Or.inr (by first | decide | exact e_neo (by decide) | exact e_ne1 (by decide) | exact e_ne2 (by decide) | omega)) (e_uq hw6 (Or.inr (by first | decide | exact e_neo (by decide) | exact e_ne1 (by decide) | exact e_ne2 (by decide) | omega)) rfl)), (e_uq hw11 (Or.inr (by first | decide | exact e_neo (by decide) | exact e_ne1 (by decide) | exact e_ne2 (by decide) | omega)) (e_uq hw6 (Or.inr (by first | decide | exact e_neo (by decide) | exact e_ne1 (by decide) | exact e_ne2 (by decide) | omega)) rfl))⟩) (e_uq hw11 (Or.inr (by first | decide | exact e_neo (by decide) | exact e_ne1 (by decide) | exact e_ne2 (by decide) | omega)) (e_ue hw6)) (e_uq hw11 (Or.inr (by first | decide | exact e_neo (by decide) | exact e_ne1 (by decide) | exact e_ne2 (by decide) | omega)) (e_uq hw6 (Or.inr (by first | decide | exact e_neo (by decide) | exact e_ne1 (by decide) | exact e_ne2 (by decide) | omega)) rfl)) (fun k q1 q2 => (e_uq hw11 (Or.inr (by first | decide | exact e_neo (by decide) | exact e_ne1 (by decide) | exact e_ne2 (by decide) | omega)) (e_uq hw6 (Or.inr (by first | decide | exact e_neo (by decide) | exact e_ne1 (by decide) | exact e_ne2 (by decide) | omega)) rfl))), (e_uq hw11 (Or.inl (by first | decide | exact e_neo (by decide) | exact e_ne1 (by decide) | exact e_ne2 (by decide) | omega)) (e_uq hw6 (Or.inl (by first | decide | exact e_neo (by decide) | exact e_ne1 (by decide) | exact e_ne2 (by decide) | omega)) rfl)), by omega, (e_uq hw11 (Or.inr (by first | decide | exact e_neo (by decide) | exact e_ne1 (by decide) | exact e_ne2 (by decide) | omega)) (e_uq hw6 (Or.inr (by first | decide | exact e_neo (by decide) | exact e_ne1 (by decide) | exact e_ne2 (by decide) | omega)) rfl))⟩⟩
    · replace h10 : (0 : Int) ≠ 0 := (show ¬ ((0 : Int) = 0) from h10)
      exfalso; omega
  · replace h5 : (w 276 (1260 * t + 2 * g + 437) : Int) = 1 := Classical.not_not.mp (show ¬ ((w 276 (1260 * t + 2 * g + 437) : Int) ≠ 1) from h5)
    refine e_Ok.run (t' := (22, [(3, (0, 1)), (0, (1, 275)), (1, (0, x)), (2, (0, y))], [(1, 275)], w)) 4 rfl ?_
    refine e_Ok.getr (z := 276) rfl (el_o rfl) rfl rfl (e_Has.eq hT rfl) ⟨by decide, by decide⟩ ?_
    refine e_Ok.run (t' := (26, [(3, (0, 1)), (0, (1, 275)), (1, (0, x)), (2, (0, y))], [(1, 275), (1, 276)], w)) 1 rfl ?_
    refine e_Ok.getf (z := 1260 * t + 416) rfl (el_o rfl) rfl rfl h97 (by omega) ?_
    refine e_Ok.run (t' := (31, [(3, (0, 1)), (0, (1, 275)), (1, (0, x)), (2, (0, y))], [(0, 12), (0, 1260 * t + 416), (1, 276)], w)) 1 rfl ?_
    refine e_Ok.add (z := 1260 * t + 428) rfl (by first | with_reducible rfl | exact Int.add_comm _ _ | omega) (by omega) ?_
    refine e_Ok.run (t' := (33, [(3, (0, 1)), (0, (1, 275)), (1, (0, x)), (2, (0, y))], [(0, 1260 * t + 428), (1, 276), (0, 1260 * t + 428), (1, 276)], w)) 1 rfl ?_
    refine e_Ok.ald (z := g + 1) rfl (el_o rfl) rfl (by omega) hF (by omega) ?_
    refine e_Ok.run (t' := (35, [(3, (0, 1)), (0, (1, 275)), (1, (0, x)), (2, (0, y))], [(0, 1), (0, g + 1), (0, 1260 * t + 428), (1, 276)], w)) 1 rfl ?_
    refine e_Ok.sub' (z := g) rfl (by first | with_reducible rfl | exact Int.add_comm _ _ | omega) (by omega) ?_
    refine e_Ok.ast rfl (el_o rfl) rfl rfl (by omega) ?_
    generalize hw82 : e_up w 276 (1260 * t + 428) g = w82
    have f83 : e_fr (mLv t) w w82 := e_fr.up (e_fr.refl w) hw82 (by first | exact Or.inr ⟨rfl, Or.inr (Or.inr (Or.inr (Or.inr (Or.inr (Or.inr (Or.inr (Or.inr (Or.inl ⟨(by omega), (by omega)⟩))))))))⟩ | (unfold mLv; omega))
    have hT84 : e_Has mTy w82 := e_Has.upr hT hw82 (nR_FRAMES (t := t) (by omega)) (by omega)
    refine e_Ok.run (t' := (38, [(3, (0, 1)), (0, (1, 275)), (1, (0, x)), (2, (0, y))], [(1, 275)], w82)) 1 rfl ?_
    refine e_Ok.getr (z := 276) rfl (el_o rfl) rfl rfl (e_uq hw82 (Or.inl (by first | decide | exact e_neo (by decide) | exact e_ne1 (by decide) | exact e_ne2 (by decide) | omega)) (e_Has.eq hT rfl)) ⟨by decide, by decide⟩ ?_
    refine e_Ok.run (t' := (42, [(3, (0, 1)), (0, (1, 275)), (1, (0, x)), (2, (0, y))], [(1, 275), (1, 276)], w82)) 1 rfl ?_
    refine e_Ok.getf (z := 1260 * t + 416) rfl (el_o rfl) rfl rfl (e_uq hw82 (Or.inl (by first | decide | exact e_neo (by decide) | exact e_ne1 (by decide) | exact e_ne2 (by decide) | omega)) h97) (by omega) ?_
    refine e_Ok.run (t' := (47, [(3, (0, 1)), (0, (1, 275)), (1, (0, x)), (2, (0, y))], [(0, 14), (0, 1260 * t + 416), (1, 276)], w82)) 1 rfl ?_
    refine e_Ok.add (z := 1260 * t + 430) rfl (by first | with_reducible rfl | exact Int.add_comm _ _ | omega) (by omega) ?_
    refine e_Ok.run (t' := (49, [(3, (0, 1)), (0, (1, 275)), (1, (0, x)), (2, (0, y))], [(0, 1260 * t + 430), (1, 276), (0, 1260 * t + 430), (1, 276)], w82)) 1 rfl ?_
    have h85 := (e_Has.get hT (c := 276) (k := 1260 * t + 430) (lo := (-2147483648)) (hi := 2147483647) (nR_IN_WATCH (t := t) (by omega)) (by decide))
    refine e_Ok.ald (z := w 276 (1260 * t + 430)) rfl (el_o rfl) rfl (by omega) (e_uq hw82 (Or.inr (by first | decide | exact e_neo (by decide) | exact e_ne1 (by decide) | exact e_ne2 (by decide) | omega)) rfl) (by first | exact e_bq h85 (by decide) (by decide) | omega) ?_
    refine e_Ok.run (t' := (51, [(3, (0, 1)), (0, (1, 275)), (1, (0, x)), (2, (0, y))], [(0, 1), (0, w 276 (1260 * t + 430)), (0, 1260 * t + 430), (1, 276)], w82)) 1 rfl ?_
    refine e_Ok.if1 rfl (fun h86 => ?_) (fun h86 => ?_)
    · replace h86 : (1 : Int) = 0 := h86
      exfalso; omega
    · replace h86 : (1 : Int) ≠ 0 := (show ¬ ((1 : Int) = 0) from h86)
      refine e_Ok.run (t' := (59, [(3, (0, 1)), (0, (1, 275)), (1, (0, x)), (2, (0, y))], [(0, 1), (0, w 276 (1260 * t + 430)), (0, 1260 * t + 430), (1, 276)], w82)) 2 rfl ?_
      refine e_Ok.any rfl (eF_sub_any _ _) (fun z87 z87a z87b => ?_)
      refine e_Ok.ast rfl (el_o rfl) rfl rfl (by omega) ?_
      generalize hw88 : e_up w82 276 (1260 * t + 430) z87 = w88
      have f89 : e_fr (mLv t) w w88 := e_fr.up f83 hw88 (by first | exact Or.inr ⟨rfl, Or.inr (Or.inr (Or.inr (Or.inr (Or.inr (Or.inr (Or.inr (Or.inr (Or.inl ⟨(by omega), (by omega)⟩))))))))⟩ | (unfold mLv; omega))
      have hT90 : e_Has mTy w88 := e_Has.upr hT84 hw88 (nR_IN_WATCH (t := t) (by omega)) (by omega)
      refine e_Ok.run (t' := (62, [(3, (0, 1)), (0, (1, 275)), (1, (0, x)), (2, (0, y))], [(1, 275)], w88)) 1 rfl ?_
      refine e_Ok.getr (z := 276) rfl (el_o rfl) rfl rfl (e_uq hw88 (Or.inl (by first | decide | exact e_neo (by decide) | exact e_ne1 (by decide) | exact e_ne2 (by decide) | omega)) (e_uq hw82 (Or.inl (by first | decide | exact e_neo (by decide) | exact e_ne1 (by decide) | exact e_ne2 (by decide) | omega)) (e_Has.eq hT rfl))) ⟨by decide, by decide⟩ ?_
      refine e_Ok.run (t' := (66, [(3, (0, 1)), (0, (1, 275)), (1, (0, x)), (2, (0, y))], [(1, 275), (1, 276)], w88)) 1 rfl ?_
      refine e_Ok.getf (z := 1260 * t + 416) rfl (el_o rfl) rfl rfl (e_uq hw88 (Or.inl (by first | decide | exact e_neo (by decide) | exact e_ne1 (by decide) | exact e_ne2 (by decide) | omega)) (e_uq hw82 (Or.inl (by first | decide | exact e_neo (by decide) | exact e_ne1 (by decide) | exact e_ne2 (by decide) | omega)) h97)) (by omega) ?_
      refine e_Ok.run (t' := (71, [(3, (0, 1)), (0, (1, 275)), (1, (0, x)), (2, (0, y))], [(0, 12), (0, 1260 * t + 416), (1, 276)], w88)) 1 rfl ?_
      refine e_Ok.add (z := 1260 * t + 428) rfl (by first | with_reducible rfl | exact Int.add_comm _ _ | omega) (by omega) ?_
      refine e_Ok.ald (z := g) rfl (el_o rfl) rfl (by omega) (e_uq hw88 (Or.inr (by first | decide | exact e_neo (by decide) | exact e_ne1 (by decide) | exact e_ne2 (by decide) | omega)) (e_ue hw82)) (by omega) ?_
      refine e_Ok.if1 rfl (fun h91 => ?_) (fun h91 => ?_)
      · replace h91 : (g : Int) ≤ 0 := h91
        refine e_Ok.run (t' := (133, [(3, (0, 1)), (0, (1, 275)), (1, (0, x)), (2, (0, y))], [(0, 1), (1, 275)], w88)) 2 rfl ?_
        refine e_Ok.putb rfl (el_o rfl) rfl rfl (by omega) ?_
        generalize hw92 : e_up w88 275 100 1 = w92
        have f93 : e_fr (mLv t) w w92 := e_fr.up f89 hw92 (by first | exact Or.inl ⟨rfl, Or.inl rfl⟩ | (unfold mLv; omega))
        have hT94 : e_Has mTy w92 := e_Has.ups hT90 hw92 rfl
        refine e_Ok.run (t' := (138, [(3, (0, 1)), (0, (1, 275)), (1, (0, x)), (2, (0, y))], [(0, 1), (0, x)], w92)) 2 rfl ?_
        refine e_Ok.if2 rfl (fun h95 => ?_) (fun h95 => ?_)
        · replace h95 : (x : Int) ≠ 1 := h95
          refine e_Ok.run (t' := (212, [(3, (0, 1)), (0, (1, 275)), (1, (0, x)), (2, (0, y))], [(1, 275)], w92)) 1 rfl ?_
          refine e_Ok.getr (z := 276) rfl (el_o rfl) rfl rfl (e_uq hw92 (Or.inr (by first | decide | exact e_neo (by decide) | exact e_ne1 (by decide) | exact e_ne2 (by decide) | omega)) (e_uq hw88 (Or.inl (by first | decide | exact e_neo (by decide) | exact e_ne1 (by decide) | exact e_ne2 (by decide) | omega)) (e_uq hw82 (Or.inl (by first | decide | exact e_neo (by decide) | exact e_ne1 (by decide) | exact e_ne2 (by decide) | omega)) (e_Has.eq hT rfl)))) ⟨by decide, by decide⟩ ?_
          refine e_Ok.run (t' := (216, [(3, (0, 1)), (0, (1, 275)), (1, (0, x)), (2, (0, y))], [(1, 275), (1, 276)], w92)) 1 rfl ?_
          refine e_Ok.getf (z := 1260 * t + 416) rfl (el_o rfl) rfl rfl (e_uq hw92 (Or.inr (by first | decide | exact e_neo (by decide) | exact e_ne1 (by decide) | exact e_ne2 (by decide) | omega)) (e_uq hw88 (Or.inl (by first | decide | exact e_neo (by decide) | exact e_ne1 (by decide) | exact e_ne2 (by decide) | omega)) (e_uq hw82 (Or.inl (by first | decide | exact e_neo (by decide) | exact e_ne1 (by decide) | exact e_ne2 (by decide) | omega)) h97))) (by omega) ?_
          refine e_Ok.run (t' := (221, [(3, (0, 1)), (0, (1, 275)), (1, (0, x)), (2, (0, y))], [(0, 6), (0, 1260 * t + 416), (1, 276)], w92)) 1 rfl ?_
          refine e_Ok.ast rfl (el_o rfl) rfl rfl (by omega) ?_
          generalize hw96 : e_up w92 276 (1260 * t + 416) 6 = w96
          have f97 : e_fr (mLv t) w w96 := e_fr.up f93 hw96 (by first | exact Or.inr ⟨rfl, Or.inr (Or.inr (Or.inr (Or.inr (Or.inr (Or.inl (by omega))))))⟩ | (unfold mLv; omega))
          have hT98 : e_Has mTy w96 := e_Has.upr hT94 hw96 (nR_TSTATE (t := t) (by omega)) (by omega)
          refine e_Ok.run (t' := (225, [(3, (0, 1)), (0, (1, 275)), (1, (0, x)), (2, (0, y))], [(1, 275), (0, 4), (1, 275)], w96)) 3 rfl ?_
          refine e_Ok.getf (z := t) rfl (el_o rfl) rfl rfl (e_uq hw96 (Or.inl (by first | decide | exact e_neo (by decide) | exact e_ne1 (by decide) | exact e_ne2 (by decide) | omega)) (e_uq hw92 (Or.inr (by first | decide | exact e_neo (by decide) | exact e_ne1 (by decide) | exact e_ne2 (by decide) | omega)) (e_uq hw88 (Or.inl (by first | decide | exact e_neo (by decide) | exact e_ne1 (by decide) | exact e_ne2 (by decide) | omega)) (e_uq hw82 (Or.inl (by first | decide | exact e_neo (by decide) | exact e_ne1 (by decide) | exact e_ne2 (by decide) | omega)) h96)))) (by omega) ?_
          refine e_Ok.run (t' := (229, [(3, (0, 1)), (0, (1, 275)), (1, (0, x)), (2, (0, y))], [(0, 0), (0, t), (0, 4), (1, 275)], w96)) 1 rfl ?_
          have e102 : w96 276 5 = w 276 5 := (e_uq hw96 (Or.inr (by first | decide | exact e_neo (by decide) | exact e_ne1 (by decide) | exact e_ne2 (by decide) | omega)) (e_uq hw92 (Or.inl (by first | decide | exact e_neo (by decide) | exact e_ne1 (by decide) | exact e_ne2 (by decide) | omega)) (e_uq hw88 (Or.inr (by first | decide | exact e_neo (by decide) | exact e_ne1 (by decide) | exact e_ne2 (by decide) | omega)) (e_uq hw82 (Or.inr (by first | decide | exact e_neo (by decide) | exact e_ne1 (by decide) | exact e_ne2 (by decide) | omega)) rfl))))
          refine e_Ok.callV rfl (by first | exact e_dq hd rfl | omega) rfl rfl rfl rfl (c_319 hT98 (by omega) (by omega) (by omega) (by omega)) (fun r99 w100 h101 => ?_)
          obtain ⟨rfl, q103, q103T, q103n⟩ := h101
          have f104 : e_fr (mLv t) w w100 := e_fr.trans f97 (e_fr.mono q103 (fun c k q => by first | exact su_59_7 q | (unfold mE at q; unfold mLv; omega)))
          show e_Ok 20 elay ecode eI (d + 1) 372 (232, [(3, (0, 1)), (0, (1, 275)), (1, (0, x)), (2, (0, y))], [], w100) _
          refine e_Ok.run (t' := (234, [(3, (0, 1)), (0, (1, 275)), (1, (0, x)), (2, (0, y))], [(1, 275), (1, 275)], w100)) 2 rfl ?_
          refine e_Ok.getf (z := t) rfl (el_o rfl) rfl rfl ((q103 275 96 no_59_0).trans (e_uq hw96 (Or.inl (by first | decide | exact e_neo (by decide) | exact e_ne1 (by decide) | exact e_ne2 (by decide) | omega)) (e_uq hw92 (Or.inr (by first | decide | exact e_neo (by decide) | exact e_ne1 (by decide) | exact e_ne2 (by decide) | omega)) (e_uq hw88 (Or.inl (by first | decide | exact e_neo (by decide) | exact e_ne1 (by decide) | exact e_ne2 (by decide) | omega)) (e_uq hw82 (Or.inl (by first | decide | exact e_neo (by decide) | exact e_ne1 (by decide) | exact e_ne2 (by decide) | omega)) h96))))) (by omega) ?_
          refine e_Ok.callV rfl (by first | exact e_dq hd rfl | omega) rfl rfl rfl rfl (c_361 (by first | exact e_dq hd rfl | omega) q103T) (fun r105 w106 h107 => ?_)
          obtain ⟨rfl, q108, q108T⟩ := h107
          have f109 : e_fr (mLv t) w w106 := e_fr.trans f104 (e_fr.mono q108 (fun c k q => by first | exact su_59_8 q | (unfold mLk at q; unfold mLv; omega)))
          show e_Ok 20 elay ecode eI (d + 1) 372 (240, [(3, (0, 1)), (0, (1, 275)), (1, (0, x)), (2, (0, y))], [], w106) _
          refine e_Ok.run (t' := (242, [(3, (0, 1)), (0, (1, 275)), (1, (0, x)), (2, (0, y))], [(0, (-2))], w106)) 1 rfl ?_
          refine e_Ok.rets rfl rfl ?_
          have e110 : w106 276 5 = w100 276 5 := ((q108 276 5 no_59_1).trans rfl)
          have est : w106 276 (1260 * t + 416) = 6 := ((q108 276 (1260 * t + 416) (by first | exact no_59_2 (by omega) | (unfold mLk; omega))).trans ((q103 276 (1260 * t + 416) (by first | exact no_59_3 (by omega) | (unfold mE; omega))).trans (e_ue hw96)))
          exact ⟨_, rfl, ⟨f109, (sRel.fr (sRel.fr (sRel.up (sRel.up (sRel.up (sRel.up sRel.refl hw82 (fun q b g1 g2 => by omega)) hw88 (fun q b g1 g2 => by omega)) hw92 (fun q b g1 g2 => by omega)) hw96 (fun q b g1 g2 => by omega)) q103 (fun b g1 g2 => by unfold mE; omega)) q108 (fun b g1 g2 => by unfold mLk; omega))⟩, q108T, by omega, ((q108 275 102 no_59_4).trans ((q103 275 102 no_59_0).trans (e_uq hw96 (Or.inl (by first | decide | exact e_neo (by decide) | exact e_ne1 (by decide) | exact e_ne2 (by decide) | omega)) (e_uq hw92 (Or.inr (by first | decide | exact e_neo (by decide) | exact e_ne1 (by decide) | exact e_ne2 (by decide) | omega)) (e_uq hw88 (Or.inl (by first | decide | exact e_neo (by decide) | exact e_ne1 (by decide) | exact e_ne2 (by decide) | omega)) (e_uq hw82 (Or.inl (by first | decide | exact e_neo (by decide) | exact e_ne1 (by decide) | exact e_ne2 (by decide) | omega)) rfl)))))), Or.inr (Or.inr ⟨by omega, rfl, ((q108 275 100 no_59_4).trans ((q103 275 100 no_59_0).trans (e_uq hw96 (Or.inl (by first | decide | exact e_neo (by decide) | exact e_ne1 (by decide) | exact e_ne2 (by decide) | omega)) (e_ue hw92)))), by omega⟩)⟩
        · replace h95 : (x : Int) = 1 := Classical.not_not.mp (show ¬ ((x : Int) ≠ 1) from h95)
          refine e_Ok.run (t' := (142, [(3, (0, 1)), (0, (1, 275)), (1, (0, x)), (2, (0, y))], [(1, 275)], w92)) 1 rfl ?_
          refine e_Ok.getr (z := 276) rfl (el_o rfl) rfl rfl (e_uq hw92 (Or.inr (by first | decide | exact e_neo (by decide) | exact e_ne1 (by decide) | exact e_ne2 (by decide) | omega)) (e_uq hw88 (Or.inl (by first | decide | exact e_neo (by decide) | exact e_ne1 (by decide) | exact e_ne2 (by decide) | omega)) (e_uq hw82 (Or.inl (by first | decide | exact e_neo (by decide) | exact e_ne1 (by decide) | exact e_ne2 (by decide) | omega)) (e_Has.eq hT rfl)))) ⟨by decide, by decide⟩ ?_
          refine e_Ok.run (t' := (146, [(3, (0, 1)), (0, (1, 275)), (1, (0, x)), (2, (0, y))], [(1, 275), (1, 276)], w92)) 1 rfl ?_
          refine e_Ok.getf (z := 1260 * t + 416) rfl (el_o rfl) rfl rfl (e_uq hw92 (Or.inr (by first | decide | exact e_neo (by decide) | exact e_ne1 (by decide) | exact e_ne2 (by decide) | omega)) (e_uq hw88 (Or.inl (by first | decide | exact e_neo (by decide) | exact e_ne1 (by decide) | exact e_ne2 (by decide) | omega)) (e_uq hw82 (Or.inl (by first | decide | exact e_neo (by decide) | exact e_ne1 (by decide) | exact e_ne2 (by decide) | omega)) h97))) (by omega) ?_
          refine e_Ok.run (t' := (151, [(3, (0, 1)), (0, (1, 275)), (1, (0, x)), (2, (0, y))], [(0, 7), (0, 1260 * t + 416), (1, 276)], w92)) 1 rfl ?_
          refine e_Ok.ast rfl (el_o rfl) rfl rfl (by omega) ?_
          generalize hw111 : e_up w92 276 (1260 * t + 416) 7 = w111
          have f112 : e_fr (mLv t) w w111 := e_fr.up f93 hw111 (by first | exact Or.inr ⟨rfl, Or.inr (Or.inr (Or.inr (Or.inr (Or.inr (Or.inl (by omega))))))⟩ | (unfold mLv; omega))
          have hT113 : e_Has mTy w111 := e_Has.upr hT94 hw111 (nR_TSTATE (t := t) (by omega)) (by omega)
          refine e_Ok.run (t' := (153, [(3, (0, 1)), (0, (1, 275)), (1, (0, x)), (2, (0, y))], [(1, 275)], w111)) 1 rfl ?_
          refine e_Ok.getr (z := 276) rfl (el_o rfl) rfl rfl (e_uq hw111 (Or.inl (by first | decide | exact e_neo (by decide) | exact e_ne1 (by decide) | exact e_ne2 (by decide) | omega)) (e_uq hw92 (Or.inr (by first | decide | exact e_neo (by decide) | exact e_ne1 (by decide) | exact e_ne2 (by decide) | omega)) (e_uq hw88 (Or.inl (by first | decide | exact e_neo (by decide) | exact e_ne1 (by decide) | exact e_ne2 (by decide) | omega)) (e_uq hw82 (Or.inl (by first | decide | exact e_neo (by decide) | exact e_ne1 (by decide) | exact e_ne2 (by decide) | omega)) (e_Has.eq hT rfl))))) ⟨by decide, by decide⟩ ?_
          refine e_Ok.run (t' := (157, [(3, (0, 1)), (0, (1, 275)), (1, (0, x)), (2, (0, y))], [(1, 275), (1, 276)], w111)) 1 rfl ?_
          refine e_Ok.getf (z := 1260 * t + 416) rfl (el_o rfl) rfl rfl (e_uq hw111 (Or.inl (by first | decide | exact e_neo (by decide) | exact e_ne1 (by decide) | exact e_ne2 (by decide) | omega)) (e_uq hw92 (Or.inr (by first | decide | exact e_neo (by decide) | exact e_ne1 (by decide) | exact e_ne2 (by decide) | omega)) (e_uq hw88 (Or.inl (by first | decide | exact e_neo (by decide) | exact e_ne1 (by decide) | exact e_ne2 (by decide) | omega)) (e_uq hw82 (Or.inl (by first | decide | exact e_neo (by decide) | exact e_ne1 (by decide) | exact e_ne2 (by decide) | omega)) h97)))) (by omega) ?_
          refine e_Ok.run (t' := (161, [(3, (0, 1)), (0, (1, 275)), (1, (0, x)), (2, (0, y))], [(0, 2), (0, 1260 * t + 416), (1, 276)], w111)) 1 rfl ?_
          refine e_Ok.add (z := 1260 * t + 418) rfl (by first | with_reducible rfl | exact Int.add_comm _ _ | omega) (by omega) ?_
          refine e_Ok.run (t' := (163, [(3, (0, 1)), (0, (1, 275)), (1, (0, x)), (2, (0, y))], [(0, y), (0, 1260 * t + 418), (1, 276)], w111)) 1 rfl ?_
          refine e_Ok.ast rfl (el_o rfl) rfl rfl (by omega) ?_
          generalize hw114 : e_up w111 276 (1260 * t + 418) y = w114
          have f115 : e_fr (mLv t) w w114 := e_fr.up f112 hw114 (by first | exact Or.inr ⟨rfl, Or.inr (Or.inr (Or.inr (Or.inr (Or.inr (Or.inr (Or.inl (by omega)))))))⟩ | (unfold mLv; omega))
          have hT116 : e_Has mTy w114 := e_Has.upr hT113 hw114 (nR_FAULT (t := t) (by omega)) (by omega)
          refine e_Ok.run (t' := (165, [(3, (0, 1)), (0, (1, 275)), (1, (0, x)), (2, (0, y))], [(1, 275)], w114)) 1 rfl ?_
          refine e_Ok.getr (z := 276) rfl (el_o rfl) rfl rfl (e_uq hw114 (Or.inl (by first | decide | exact e_neo (by decide) | exact e_ne1 (by decide) | exact e_ne2 (by decide) | omega)) (e_uq hw111 (Or.inl (by first | decide | exact e_neo (by decide) | exact e_ne1 (by decide) | exact e_ne2 (by decide) | omega)) (e_uq hw92 (Or.inr (by first | decide | exact e_neo (by decide) | exact e_ne1 (by decide) | exact e_ne2 (by decide) | omega)) (e_uq hw88 (Or.inl (by first | decide | exact e_neo (by decide) | exact e_ne1 (by decide) | exact e_ne2 (by decide) | omega)) (e_uq hw82 (Or.inl (by first | decide | exact e_neo (by decide) | exact e_ne1 (by decide) | exact e_ne2 (by decide) | omega)) (e_Has.eq hT rfl)))))) ⟨by decide, by decide⟩ ?_
          refine e_Ok.run (t' := (169, [(3, (0, 1)), (0, (1, 275)), (1, (0, x)), (2, (0, y))], [(1, 275), (1, 276)], w114)) 1 rfl ?_
          refine e_Ok.getf (z := a) rfl (el_o rfl) rfl rfl (e_uq hw114 (Or.inl (by first | decide | exact e_neo (by decide) | exact e_ne1 (by decide) | exact e_ne2 (by decide) | omega)) (e_uq hw111 (Or.inl (by first | decide | exact e_neo (by decide) | exact e_ne1 (by decide) | exact e_ne2 (by decide) | omega)) (e_uq hw92 (Or.inr (by first | decide | exact e_neo (by decide) | exact e_ne1 (by decide) | exact e_ne2 (by decide) | omega)) (e_uq hw88 (Or.inl (by first | decide | exact e_neo (by decide) | exact e_ne1 (by decide) | exact e_ne2 (by decide) | omega)) (e_uq hw82 (Or.inl (by first | decide | exact e_neo (by decide) | exact e_ne1 (by decide) | exact e_ne2 (by decide) | omega)) h98))))) (by omega) ?_
          refine e_Ok.callS rfl (by first | exact e_dq hd rfl | omega) rfl rfl (c_268 (by omega)) (fun r117 w118 h119 => ?_)
          obtain ⟨rfl, rfl⟩ := h119
          show e_Ok 20 elay ecode eI (d + 1) 372 (175, [(3, (0, 1)), (0, (1, 275)), (1, (0, x)), (2, (0, y))], [(0, 36 * a + 16), (1, 276)], w114) _
          refine e_Ok.run (t' := (176, [(3, (0, 1)), (0, (1, 275)), (1, (0, x)), (2, (0, y))], [(0, 2), (0, 36 * a + 16), (1, 276)], w114)) 1 rfl ?_
          refine e_Ok.add (z := 36 * a + 18) rfl (by first | with_reducible rfl | exact Int.add_comm _ _ | omega) (by omega) ?_
          refine e_Ok.run (t' := (178, [(3, (0, 1)), (0, (1, 275)), (1, (0, x)), (2, (0, y))], [(1, 275), (0, 36 * a + 18), (1, 276)], w114)) 1 rfl ?_
          refine e_Ok.getf (z := t) rfl (el_o rfl) rfl rfl (e_uq hw114 (Or.inl (by first | decide | exact e_neo (by decide) | exact e_ne1 (by decide) | exact e_ne2 (by decide) | omega)) (e_uq hw111 (Or.inl (by first | decide | exact e_neo (by decide) | exact e_ne1 (by decide) | exact e_ne2 (by decide) | omega)) (e_uq hw92 (Or.inr (by first | decide | exact e_neo (by decide) | exact e_ne1 (by decide) | exact e_ne2 (by decide) | omega)) (e_uq hw88 (Or.inl (by first | decide | exact e_neo (by decide) | exact e_ne1 (by decide) | exact e_ne2 (by decide) | omega)) (e_uq hw82 (Or.inl (by first | decide | exact e_neo (by decide) | exact e_ne1 (by decide) | exact e_ne2 (by decide) | omega)) h96))))) (by omega) ?_
          refine e_Ok.ast rfl (el_o rfl) rfl rfl (by omega) ?_
          generalize hw120 : e_up w114 276 (36 * a + 18) t = w120
          have f121 : e_fr (mLv t) w w120 := e_fr.up f115 hw120 (by first | exact Or.inr ⟨rfl, Or.inr (Or.inr (Or.inr (Or.inl ⟨(by omega), ⟨(by omega), Or.inr (Or.inl (by omega))⟩⟩)))⟩ | (unfold mLv; omega))
          have hT122 : e_Has mTy w120 := e_Has.upr hT116 hw120 (nR_STUCK (a := a) (by omega)) (by omega)
          refine e_Ok.run (t' := (185, [(3, (0, 1)), (0, (1, 275)), (1, (0, x)), (2, (0, y))], [(1, 275), (0, 5), (1, 275)], w120)) 3 rfl ?_
          refine e_Ok.getf (z := t) rfl (el_o rfl) rfl rfl (e_uq hw120 (Or.inl (by first | decide | exact e_neo (by decide) | exact e_ne1 (by decide) | exact e_ne2 (by decide) | omega)) (e_uq hw114 (Or.inl (by first | decide | exact e_neo (by decide) | exact e_ne1 (by decide) | exact e_ne2 (by decide) | omega)) (e_uq hw111 (Or.inl (by first | decide | exact e_neo (by decide) | exact e_ne1 (by decide) | exact e_ne2 (by decide) | omega)) (e_uq hw92 (Or.inr (by first | decide | exact e_neo (by decide) | exact e_ne1 (by decide) | exact e_ne2 (by decide) | omega)) (e_uq hw88 (Or.inl (by first | decide | exact e_neo (by decide) | exact e_ne1 (by decide) | exact e_ne2 (by decide) | omega)) (e_uq hw82 (Or.inl (by first | decide | exact e_neo (by decide) | exact e_ne1 (by decide) | exact e_ne2 (by decide) | omega)) h96)))))) (by omega) ?_
          refine e_Ok.run (t' := (189, [(3, (0, 1)), (0, (1, 275)), (1, (0, x)), (2, (0, y))], [(0, y), (0, t), (0, 5), (1, 275)], w120)) 1 rfl ?_
          have e126 : w120 276 5 = w 276 5 := (e_uq hw120 (Or.inr (by first | decide | exact e_neo (by decide) | exact e_ne1 (by decide) | exact e_ne2 (by decide) | omega)) (e_uq hw114 (Or.inr (by first | decide | exact e_neo (by decide) | exact e_ne1 (by decide) | exact e_ne2 (by decide) | omega)) (e_uq hw111 (Or.inr (by first | decide | exact e_neo (by decide) | exact e_ne1 (by decide) | exact e_ne2 (by decide) | omega)) (e_uq hw92 (Or.inl (by first | decide | exact e_neo (by decide) | exact e_ne1 (by decide) | exact e_ne2 (by decide) | omega)) (e_uq hw88 (Or.inr (by first | decide | exact e_neo (by decide) | exact e_ne1 (by decide) | exact e_ne2 (by decide) | omega)) (e_uq hw82 (Or.inr (by first | decide | exact e_neo (by decide) | exact e_ne1 (by decide) | exact e_ne2 (by decide) | omega)) rfl))))))
          refine e_Ok.callV rfl (by first | exact e_dq hd rfl | omega) rfl rfl rfl rfl (c_319 hT122 (by omega) (by omega) (by omega) (by omega)) (fun r123 w124 h125 => ?_)
          obtain ⟨rfl, q127, q127T, q127n⟩ := h125
          have f128 : e_fr (mLv t) w w124 := e_fr.trans f121 (e_fr.mono q127 (fun c k q => by first | exact su_59_7 q | (unfold mE at q; unfold mLv; omega)))
          show e_Ok 20 elay ecode eI (d + 1) 372 (192, [(3, (0, 1)), (0, (1, 275)), (1, (0, x)), (2, (0, y))], [], w124) _
          refine e_Ok.run (t' := (194, [(3, (0, 1)), (0, (1, 275)), (1, (0, x)), (2, (0, y))], [(1, 275), (1, 275)], w124)) 2 rfl ?_
          refine e_Ok.getf (z := t) rfl (el_o rfl) rfl rfl ((q127 275 96 no_59_0).trans (e_uq hw120 (Or.inl (by first | decide | exact e_neo (by decide) | exact e_ne1 (by decide) | exact e_ne2 (by decide) | omega)) (e_uq hw114 (Or.inl (by first | decide | exact e_neo (by decide) | exact e_ne1 (by decide) | exact e_ne2 (by decide) | omega)) (e_uq hw111 (Or.inl (by first | decide | exact e_neo (by decide) | exact e_ne1 (by decide) | exact e_ne2 (by decide) | omega)) (e_uq hw92 (Or.inr (by first | decide | exact e_neo (by decide) | exact e_ne1 (by decide) | exact e_ne2 (by decide) | omega)) (e_uq hw88 (Or.inl (by first | decide | exact e_neo (by decide) | exact e_ne1 (by decide) | exact e_ne2 (by decide) | omega)) (e_uq hw82 (Or.inl (by first | decide | exact e_neo (by decide) | exact e_ne1 (by decide) | exact e_ne2 (by decide) | omega)) h96))))))) (by omega) ?_
          refine e_Ok.callV rfl (by first | exact e_dq hd rfl | omega) rfl rfl rfl rfl (c_361 (by first | exact e_dq hd rfl | omega) q127T) (fun r129 w130 h131 => ?_)
          obtain ⟨rfl, q132, q132T⟩ := h131
          have f133 : e_fr (mLv t) w w130 := e_fr.trans f128 (e_fr.mono q132 (fun c k q => by first | exact su_59_8 q | (unfold mLk at q; unfold mLv; omega)))
          show e_Ok 20 elay ecode eI (d + 1) 372 (200, [(3, (0, 1)), (0, (1, 275)), (1, (0, x)), (2, (0, y))], [], w130) _
          refine e_Ok.run (t' := (202, [(3, (0, 1)), (0, (1, 275)), (1, (0, x)), (2, (0, y))], [(1, 275), (1, 275)], w130)) 2 rfl ?_
          refine e_Ok.getf (z := a) rfl (el_o rfl) rfl rfl ((q132 275 98 no_59_4).trans ((q127 275 98 no_59_0).trans (e_uq hw120 (Or.inl (by first | decide | exact e_neo (by decide) | exact e_ne1 (by decide) | exact e_ne2 (by decide) | omega)) (e_uq hw114 (Or.inl (by first | decide | exact e_neo (by decide) | exact e_ne1 (by decide) | exact e_ne2 (by decide) | omega)) (e_uq hw111 (Or.inl (by first | decide | exact e_neo (by decide) | exact e_ne1 (by decide) | exact e_ne2 (by decide) | omega)) (e_uq hw92 (Or.inr (by first | decide | exact e_neo (by decide) | exact e_ne1 (by decide) | exact e_ne2 (by decide) | omega)) (e_uq hw88 (Or.inl (by first | decide | exact e_neo (by decide) | exact e_ne1 (by decide) | exact e_ne2 (by decide) | omega)) (e_uq hw82 (Or.inl (by first | decide | exact e_neo (by decide) | exact e_ne1 (by decide) | exact e_ne2 (by decide) | omega)) h98)))))))) (by omega) ?_
          have e137 : w130 276 5 = w124 276 5 := ((q132 276 5 no_59_1).trans rfl)
          refine e_Ok.callV rfl (by first | exact e_dq hd rfl | omega) rfl rfl rfl rfl (c_384 (by first | exact e_dq hd rfl | omega) q132T (by omega) (by omega)) (fun r134 w135 h136 => ?_)
          obtain ⟨rfl, q138, q138T, q138n, q138s⟩ := h136
          have f139 : e_fr (mLv t) w w135 := e_fr.trans f133 (e_fr.mono q138 (fun c k q => by first | exact su_59_9 q | (unfold mBr at q; unfold mLv; omega)))
          show e_Ok 20 elay ecode eI (d + 1) 372 (208, [(3, (0, 1)), (0, (1, 275)), (1, (0, x)), (2, (0, y))], [], w135) _
          refine e_Ok.run (t' := (242, [(3, (0, 1)), (0, (1, 275)), (1, (0, x)), (2, (0, y))], [(0, (-2))], w135)) 2 rfl ?_
          refine e_Ok.rets rfl rfl ?_
          have e140 : w135 276 5 = w135 276 5 := rfl
          have est : w135 276 (1260 * t + 416) = 7 := ((q138 276 (1260 * t + 416) (by first | exact no_59_5 (by omega) | (unfold mBr; omega))).trans ((q132 276 (1260 * t + 416) (by first | exact no_59_2 (by omega) | (unfold mLk; omega))).trans ((q127 276 (1260 * t + 416) (by first | exact no_59_3 (by omega) | (unfold mE; omega))).trans (e_uq hw120 (Or.inr (by first | decide | exact e_neo (by decide) | exact e_ne1 (by decide) | exact e_ne2 (by decide) | omega)) (e_uq hw114 (Or.inr (by first | decide | exact e_neo (by decide) | exact e_ne1 (by decide) | exact e_ne2 (by decide) | omega)) (e_ue hw111))))))
          exact ⟨_, rfl, ⟨f139, (sRel.trans (sRel.fr (sRel.fr (sRel.up (sRel.up (sRel.up (sRel.up (sRel.up (sRel.up sRel.refl hw82 (fun q b g1 g2 => by omega)) hw88 (fun q b g1 g2 => by omega)) hw92 (fun q b g1 g2 => by omega)) hw111 (fun q b g1 g2 => by omega)) hw114 (fun q b g1 g2 => by omega)) hw120 (fun q b g1 g2 => by omega)) q127 (fun b g1 g2 => by unfold mE; omega)) q132 (fun b g1 g2 => by unfold mLk; omega)) q138s)⟩, q138T, by omega, ((q138 275 102 no_59_6).trans ((q132 275 102 no_59_4).trans ((q127 275 102 no_59_0).trans (e_uq hw120 (Or.inl (by first | decide | exact e_neo (by decide) | exact e_ne1 (by decide) | exact e_ne2 (by decide) | omega)) (e_uq hw114 (Or.inl (by first | decide | exact e_neo (by decide) | exact e_ne1 (by decide) | exact e_ne2 (by decide) | omega)) (e_uq hw111 (Or.inl (by first | decide | exact e_neo (by decide) | exact e_ne1 (by decide) | exact e_ne2 (by decide) | omega)) (e_uq hw92 (Or.inr (by first | decide | exact e_neo (by decide) | exact e_ne1 (by decide) | exact e_ne2 (by decide) | omega)) (e_uq hw88 (Or.inl (by first | decide | exact e_neo (by decide) | exact e_ne1 (by decide) | exact e_ne2 (by decide) | omega)) (e_uq hw82 (Or.inl (by first | decide | exact e_neo (by decide) | exact e_ne1 (by decide) | exact e_ne2 (by decide) | omega)) rfl))))))))), Or.inr (Or.inr ⟨by omega, rfl, ((q138 275 100 no_59_6).trans ((q132 275 100 no_59_4).trans ((q127 275 100 no_59_0).trans (e_uq hw120 (Or.inl (by first | decide | exact e_neo (by decide) | exact e_ne1 (by decide) | exact e_ne2 (by decide) | omega)) (e_uq hw114 (Or.inl (by first | decide | exact e_neo (by decide) | exact e_ne1 (by decide) | exact e_ne2 (by decide) | omega)) (e_uq hw111 (Or.inl (by first | decide | exact e_neo (by decide) | exact e_ne1 (by decide) | exact e_ne2 (by decide) | omega)) (e_ue hw92))))))), by omega⟩)⟩
      · replace h91 : (g : Int) > 0 := Int.not_le.mp (show ¬ ((g : Int) ≤ 0) from h91)
        refine e_Ok.run (t' := (78, [(3, (0, 1)), (0, (1, 275)), (1, (0, x)), (2, (0, y))], [(0, 1), (0, x)], w88)) 2 rfl ?_
        refine e_Ok.if2 rfl (fun h141 => ?_) (fun h141 => ?_)
        · replace h141 : (x : Int) ≠ 1 := h141
          have hlt := hlow.top (by omega)
          have hn := hC.1
          have hlt3 := hlt.2.2.2.2 (by omega)
          refine e_Ok.run (t' := (107, [(3, (0, 1)), (0, (1, 275)), (1, (0, x)), (2, (0, y))], [(1, 275), (1, 275)], w88)) 2 rfl ?_
          refine e_Ok.getr (z := 276) rfl (el_o rfl) rfl rfl (e_uq hw88 (Or.inl (by first | decide | exact e_neo (by decide) | exact e_ne1 (by decide) | exact e_ne2 (by decide) | omega)) (e_uq hw82 (Or.inl (by first | decide | exact e_neo (by decide) | exact e_ne1 (by decide) | exact e_ne2 (by decide) | omega)) (e_Has.eq hT rfl))) ⟨by decide, by decide⟩ ?_
          refine e_Ok.run (t' := (111, [(3, (0, 1)), (0, (1, 275)), (1, (0, x)), (2, (0, y))], [(1, 275), (1, 276), (1, 275)], w88)) 1 rfl ?_
          refine e_Ok.callV rfl (by first | exact e_dq hd rfl | omega) rfl rfl rfl rfl (c_362 hT90 (by omega) (e_uq hw88 (Or.inl (by first | decide | exact e_neo (by decide) | exact e_ne1 (by decide) | exact e_ne2 (by decide) | omega)) (e_uq hw82 (Or.inl (by first | decide | exact e_neo (by decide) | exact e_ne1 (by decide) | exact e_ne2 (by decide) | omega)) h97)) (f := g) (z := 1260 * t + 2 * g + 434) (e_uq hw88 (Or.inr (by first | decide | exact e_neo (by decide) | exact e_ne1 (by decide) | exact e_ne2 (by decide) | omega)) (e_ue hw82)) (by omega) (by omega)) (fun r142 w143 h144 => ?_)
          obtain ⟨rfl, rfl⟩ := h144
          show e_Ok 20 elay ecode eI (d + 1) 372 (114, [(3, (0, 1)), (0, (1, 275)), (1, (0, x)), (2, (0, y))], [(0, 1260 * t + 2 * g + 434), (1, 276), (1, 275)], w88) _
          have h145 := (e_Has.get hT (c := 276) (k := 1260 * t + 2 * g + 434) (lo := 0) (hi := 9999) (nR_FRg t (g - 1) (by omega) (by omega) (by omega)) (by decide))
          refine e_Ok.ald (z := w 276 (1260 * t + 2 * g + 434)) rfl (el_o rfl) rfl (by omega) (e_uq hw88 (Or.inr (by first | decide | exact e_neo (by decide) | exact e_ne1 (by decide) | exact e_ne2 (by decide) | omega)) (e_uq hw82 (Or.inr (by first | decide | exact e_neo (by decide) | exact e_ne1 (by decide) | exact e_ne2 (by decide) | omega)) rfl)) (by first | exact e_bq h145 (by decide) (by decide) | omega) ?_
          refine e_Ok.run (t' := (116, [(3, (0, 1)), (0, (1, 275)), (1, (0, x)), (2, (0, y))], [(0, 1), (0, w 276 (1260 * t + 2 * g + 434)), (1, 275)], w88)) 1 rfl ?_
          refine e_Ok.if1 rfl (fun h146 => ?_) (fun h146 => ?_)
          · replace h146 : (1 : Int) = 0 := h146
            exfalso; omega
          · replace h146 : (1 : Int) ≠ 0 := (show ¬ ((1 : Int) = 0) from h146)
            refine e_Ok.run (t' := (124, [(3, (0, 1)), (0, (1, 275)), (1, (0, x)), (2, (0, y))], [(0, 0), (0, w 276 (1260 * t + 2 * g + 434)), (1, 275)], w88)) 2 rfl ?_
            refine e_Ok.add (z := w 276 (1260 * t + 2 * g + 434)) rfl (by first | with_reducible rfl | exact Int.add_comm _ _ | omega) (by omega) ?_
            refine e_Ok.callV rfl (by first | exact e_dq hd rfl | omega) rfl rfl rfl rfl (c_365 (by first | exact e_dq hd rfl | omega) hT90 (by omega) (e_uq hw88 (Or.inl (by first | decide | exact e_neo (by decide) | exact e_ne1 (by decide) | exact e_ne2 (by decide) | omega)) (e_uq hw82 (Or.inl (by first | decide | exact e_neo (by decide) | exact e_ne1 (by decide) | exact e_ne2 (by decide) | omega)) h97)) (f := g) (z := 1260 * t + 2 * g + 434) (e_uq hw88 (Or.inr (by first | decide | exact e_neo (by decide) | exact e_ne1 (by decide) | exact e_ne2 (by decide) | omega)) (e_ue hw82)) (by omega) (by omega)) (fun r147 w148 h149 => ?_)
            obtain ⟨rfl, hw148⟩ := h149
            have f150 : e_fr (mLv t) w w148 := e_fr.up f89 hw148 (by unfold mLv; omega)
            have hT151 : e_Has mTy w148 := e_Has.upr hT90 hw148 (nR_FRg t (g - 1) (by omega) (by omega) (by omega)) (by omega)
            show e_Ok 20 elay ecode eI (d + 1) 372 (128, [(3, (0, 1)), (0, (1, 275)), (1, (0, x)), (2, (0, y))], [], w148) _
            refine e_Ok.run (t' := (130, [(3, (0, 1)), (0, (1, 275)), (1, (0, x)), (2, (0, y))], [(0, (-2))], w148)) 1 rfl ?_
            refine e_Ok.rets rfl rfl ?_
            have e152 : w148 276 5 = w 276 5 := (e_uq hw148 (Or.inr (by first | decide | exact e_neo (by decide) | exact e_ne1 (by decide) | exact e_ne2 (by decide) | omega)) (e_uq hw88 (Or.inr (by first | decide | exact e_neo (by decide) | exact e_ne1 (by decide) | exact e_ne2 (by decide) | omega)) (e_uq hw82 (Or.inr (by first | decide | exact e_neo (by decide) | exact e_ne1 (by decide) | exact e_ne2 (by decide) | omega)) rfl)))
            have hru := runOk.pop (w' := w148) hC hR (by omega) (fun c k q1 q2 => (e_uq hw148 (Or.inl (by first | decide | exact e_neo (by decide) | exact e_ne1 (by decide) | exact e_ne2 (by decide) | omega)) (e_uq hw88 (Or.inl (by first | decide | exact e_neo (by decide) | exact e_ne1 (by decide) | exact e_ne2 (by decide) | omega)) (e_uq hw82 (Or.inl (by first | decide | exact e_neo (by decide) | exact e_ne1 (by decide) | exact e_ne2 (by decide) | omega)) rfl)))) (fun i q1 q2 => ⟨(e_uq hw148 (Or.inr (by first | decide | exact e_neo (by decide) | exact e_ne1 (by decide) | exact e_ne2 (by decide) | omega)) (e_uq hw88 (Or.inr (by first | decide | exact e_neo (by decide) | exact e_ne1 (by decide) | exact e_ne2 (by decide) | omega)) (e_uq hw82 (Or.inr (by first | decide | exact e_neo (by decide) | exact e_ne1 (by decide) | exact e_ne2 (by decide) | omega)) rfl))), (e_uq hw148 (Or.inr (by first | decide | exact e_neo (by decide) | exact e_ne1 (by decide) | exact e_ne2 (by decide) | omega)) (e_uq hw88 (Or.inr (by first | decide | exact e_neo (by decide) | exact e_ne1 (by decide) | exact e_ne2 (by decide) | omega)) (e_uq hw82 (Or.inr (by first | decide | exact e_neo (by decide) | exact e_ne1 (by decide) | exact e_ne2 (by decide) | omega)) rfl)))⟩) (e_uq hw148 (Or.inr (by first | decide | exact e_neo (by decide) | exact e_ne1 (by decide) | exact e_ne2 (by decide) | omega)) (e_uq hw88 (Or.inr (by first | decide | exact e_neo (by decide) | exact e_ne1 (by decide) | exact e_ne2 (by decide) | omega)) (e_ue hw82))) (e_uq hw148 (Or.inr (by first | decide | exact e_neo (by decide) | exact e_ne1 (by decide) | exact e_ne2 (by decide) | omega)) (e_uq hw88 (Or.inr (by first | decide | exact e_neo (by decide) | exact e_ne1 (by decide) | exact e_ne2 (by decide) | omega)) (e_uq hw82 (Or.inr (by first | decide | exact e_neo (by decide) | exact e_ne1 (by decide) | exact e_ne2 (by decide) | omega)) rfl))) (fun k q1 q2 => (e_uq hw148 (Or.inr (by first | decide | exact e_neo (by decide) | exact e_ne1 (by decide) | exact e_ne2 (by decide) | omega)) (e_uq hw88 (Or.inr (by first | decide | exact e_neo (by decide) | exact e_ne1 (by decide) | exact e_ne2 (by decide) | omega)) (e_uq hw82 (Or.inr (by first | decide | exact e_neo (by decide) | exact e_ne1 (by decide) | exact e_ne2 (by decide) | omega)) rfl))))
            have evp : w148 276 (1260 * t + 2 * g + 434) = w 276 (1260 * t + 2 * g + 434) := (e_ue hw148)
            exact ⟨_, rfl, ⟨f150, (sRel.up (sRel.up (sRel.up sRel.refl hw82 (fun q b g1 g2 => by omega)) hw88 (fun q b g1 g2 => by omega)) hw148 (fun q b g1 g2 => by omega))⟩, hT151, by omega, (e_uq hw148 (Or.inl (by first | decide | exact e_neo (by decide) | exact e_ne1 (by decide) | exact e_ne2 (by decide) | omega)) (e_uq hw88 (Or.inl (by first | decide | exact e_neo (by decide) | exact e_ne1 (by decide) | exact e_ne2 (by decide) | omega)) (e_uq hw82 (Or.inl (by first | decide | exact e_neo (by decide) | exact e_ne1 (by decide) | exact e_ne2 (by decide) | omega)) rfl))), Or.inr (Or.inl ⟨by omega, by omega, rfl, w 276 (1260 * t + 2 * g + 434), runOk.at hru (by omega) (by rw [show 1260 * t + 2 * (g - 1) + 436 = 1260 * t + 2 * g + 434 by omega]; exact evp) (show w148 330 (10000 * a + (w 276 (1260 * t + 2 * g + 434))) = w 330 (10000 * a + (w 276 (1260 * t + 2 * g + 434))) from (e_uq hw148 (Or.inl (by first | decide | exact e_neo (by decide) | exact e_ne1 (by decide) | exact e_ne2 (by decide) | omega)) (e_uq hw88 (Or.inl (by first | decide | exact e_neo (by decide) | exact e_ne1 (by decide) | exact e_ne2 (by decide) | omega)) (e_uq hw82 (Or.inl (by first | decide | exact e_neo (by decide) | exact e_ne1 (by decide) | exact e_ne2 (by decide) | omega)) rfl)))), by omega, by omega, (e_uq hw148 (Or.inl (by first | decide | exact e_neo (by decide) | exact e_ne1 (by decide) | exact e_ne2 (by decide) | omega)) (e_uq hw88 (Or.inl (by first | decide | exact e_neo (by decide) | exact e_ne1 (by decide) | exact e_ne2 (by decide) | omega)) (e_uq hw82 (Or.inl (by first | decide | exact e_neo (by decide) | exact e_ne1 (by decide) | exact e_ne2 (by decide) | omega)) rfl))), by omega, (e_uq hw148 (Or.inr (by first | decide | exact e_neo (by decide) | exact e_ne1 (by decide) | exact e_ne2 (by decide) | omega)) (e_uq hw88 (Or.inr (by first | decide | exact e_neo (by decide) | exact e_ne1 (by decide) | exact e_ne2 (by decide) | omega)) (e_uq hw82 (Or.inr (by first | decide | exact e_neo (by decide) | exact e_ne1 (by decide) | exact e_ne2 (by decide) | omega)) rfl)))⟩)⟩
        · replace h141 : (x : Int) = 1 := Classical.not_not.mp (show ¬ ((x : Int) ≠ 1) from h141)
          have hlt := hlow.top (by omega)
          refine e_Ok.run (t' := (82, [(3, (0, 1)), (0, (1, 275)), (1, (0, x)), (2, (0, y))], [(1, 275)], w88)) 1 rfl ?_
          refine e_Ok.getr (z := 330) rfl (el_o rfl) rfl rfl (e_uq hw88 (Or.inl (by first | decide | exact e_neo (by decide) | exact e_ne1 (by decide) | exact e_ne2 (by decide) | omega)) (e_uq hw82 (Or.inl (by first | decide | exact e_neo (by decide) | exact e_ne1 (by decide) | exact e_ne2 (by decide) | omega)) (e_Has.eq hT rfl))) ⟨by decide, by decide⟩ ?_
          refine e_Ok.run (t' := (89, [(3, (0, 1)), (0, (1, 275)), (1, (0, x)), (2, (0, y))], [(1, 275), (0, 10000), (1, 330)], w88)) 2 rfl ?_
          refine e_Ok.getf (z := a) rfl (el_o rfl) rfl rfl (e_uq hw88 (Or.inl (by first | decide | exact e_neo (by decide) | exact e_ne1 (by decide) | exact e_ne2 (by decide) | omega)) (e_uq hw82 (Or.inl (by first | decide | exact e_neo (by decide) | exact e_ne1 (by decide) | exact e_ne2 (by decide) | omega)) h98)) (by omega) ?_
          refine e_Ok.mul (z := 10000 * a) rfl (by first | with_reducible rfl | exact Int.add_comm _ _ | omega) (by omega) ?_
          refine e_Ok.run (t' := (94, [(3, (0, 1)), (0, (1, 275)), (1, (0, x)), (2, (0, y))], [(1, 275), (0, 10000 * a), (1, 330)], w88)) 1 rfl ?_
          refine e_Ok.getr (z := 276) rfl (el_o rfl) rfl rfl (e_uq hw88 (Or.inl (by first | decide | exact e_neo (by decide) | exact e_ne1 (by decide) | exact e_ne2 (by decide) | omega)) (e_uq hw82 (Or.inl (by first | decide | exact e_neo (by decide) | exact e_ne1 (by decide) | exact e_ne2 (by decide) | omega)) (e_Has.eq hT rfl))) ⟨by decide, by decide⟩ ?_
          refine e_Ok.run (t' := (98, [(3, (0, 1)), (0, (1, 275)), (1, (0, x)), (2, (0, y))], [(1, 275), (1, 276), (0, 10000 * a), (1, 330)], w88)) 1 rfl ?_
          refine e_Ok.callV rfl (by first | exact e_dq hd rfl | omega) rfl rfl rfl rfl (c_362 hT90 (by omega) (e_uq hw88 (Or.inl (by first | decide | exact e_neo (by decide) | exact e_ne1 (by decide) | exact e_ne2 (by decide) | omega)) (e_uq hw82 (Or.inl (by first | decide | exact e_neo (by decide) | exact e_ne1 (by decide) | exact e_ne2 (by decide) | omega)) h97)) (f := g) (z := 1260 * t + 2 * g + 434) (e_uq hw88 (Or.inr (by first | decide | exact e_neo (by decide) | exact e_ne1 (by decide) | exact e_ne2 (by decide) | omega)) (e_ue hw82)) (by omega) (by omega)) (fun r153 w154 h155 => ?_)
          obtain ⟨rfl, rfl⟩ := h155
          show e_Ok 20 elay ecode eI (d + 1) 372 (101, [(3, (0, 1)), (0, (1, 275)), (1, (0, x)), (2, (0, y))], [(0, 1260 * t + 2 * g + 434), (1, 276), (0, 10000 * a), (1, 330)], w88) _
          have h156 := (e_Has.get hT (c := 276) (k := 1260 * t + 2 * g + 434) (lo := 0) (hi := 9999) (nR_FRg t (g - 1) (by omega) (by omega) (by omega)) (by decide))
          refine e_Ok.ald (z := w 276 (1260 * t + 2 * g + 434)) rfl (el_o rfl) rfl (by omega) (e_uq hw88 (Or.inr (by first | decide | exact e_neo (by decide) | exact e_ne1 (by decide) | exact e_ne2 (by decide) | omega)) (e_uq hw82 (Or.inr (by first | decide | exact e_neo (by decide) | exact e_ne1 (by decide) | exact e_ne2 (by decide) | omega)) rfl)) (by first | exact e_bq h156 (by decide) (by decide) | omega) ?_
          refine e_Ok.add (z := 10000 * a + w 276 (1260 * t + 2 * g + 434)) rfl (by first | with_reducible rfl | exact Int.add_comm _ _ | omega) (by omega) ?_
          have h157 := (e_Has.get hT (c := 330) (k := 10000 * a + w 276 (1260 * t + 2 * g + 434)) (lo := (-2147483648)) (hi := 2147483647) rfl (by decide))
          refine e_Ok.ald (z := w 330 (10000 * a + w 276 (1260 * t + 2 * g + 434))) rfl rfl rfl (by omega) (e_uq hw88 (Or.inl (by first | decide | exact e_neo (by decide) | exact e_ne1 (by decide) | exact e_ne2 (by decide) | omega)) (e_uq hw82 (Or.inl (by first | decide | exact e_neo (by decide) | exact e_ne1 (by decide) | exact e_ne2 (by decide) | omega)) rfl)) (by first | exact e_bq h157 (by decide) (by decide) | omega) ?_
          refine e_Ok.rets rfl rfl ?_
          have e158 : w88 276 5 = w 276 5 := (e_uq hw88 (Or.inr (by first | decide | exact e_neo (by decide) | exact e_ne1 (by decide) | exact e_ne2 (by decide) | omega)) (e_uq hw82 (Or.inr (by first | decide | exact e_neo (by decide) | exact e_ne1 (by decide) | exact e_ne2 (by decide) | omega)) rfl))
          exact ⟨_, rfl, ⟨f89, (sRel.up (sRel.up sRel.refl hw82 (fun q b g1 g2 => by omega)) hw88 (fun q b g1 g2 => by omega))⟩, hT90, by omega, (e_uq hw88 (Or.inl (by first | decide | exact e_neo (by decide) | exact e_ne1 (by decide) | exact e_ne2 (by decide) | omega)) (e_uq hw82 (Or.inl (by first | decide | exact e_neo (by decide) | exact e_ne1 (by decide) | exact e_ne2 (by decide) | omega)) rfl)), Or.inl ⟨by omega, by omega, rfl, runOk.pop hC hR (by omega) (fun c k q1 q2 => (e_uq hw88 (Or.inl (by first | decide | exact e_neo (by decide) | exact e_ne1 (by decide) | exact e_ne2 (by decide) | omega)) (e_uq hw82 (Or.inl (by first | decide | exact e_neo (by decide) | exact e_ne1 (by decide) | exact e_ne2 (by decide) | omega)) rfl))) (fun i q1 q2 => ⟨(e_uq hw88 (Or.inr (by first | decide | exact e_neo (by decide) | exact e_ne1 (by decide) | exact e_ne2 (by decide) | omega)) (e_uq hw82 (Or.inr (by first | decide | exact e_neo (by decide) | exact e_ne1 (by decide) | exact e_ne2 (by decide) | omega)) rfl)), (e_uq hw88 (Or.inr (by first | decide | exact e_neo (by decide) | exact e_ne1 (by decide) | exact e_ne2 (by decide) | omega)) (e_uq hw82 (Or.inr (by first | decide | exact e_neo (by decide) | exact e_ne1 (by decide) | exact e_ne2 (by decide) | omega)) rfl))⟩) (e_uq hw88 (Or.inr (by first | decide | exact e_neo (by decide) | exact e_ne1 (by decide) | exact e_ne2 (by decide) | omega)) (e_ue hw82)) (e_uq hw88 (Or.inr (by first | decide | exact e_neo (by decide) | exact e_ne1 (by decide) | exact e_ne2 (by decide) | omega)) (e_uq hw82 (Or.inr (by first | decide | exact e_neo (by decide) | exact e_ne1 (by decide) | exact e_ne2 (by decide) | omega)) rfl)) (fun k q1 q2 => (e_uq hw88 (Or.inr (by first | decide | exact e_neo (by decide) | exact e_ne1 (by decide) | exact e_ne2 (by decide) | omega)) (e_uq hw82 (Or.inr (by first | decide | exact e_neo (by decide) | exact e_ne1 (by decide) | exact e_ne2 (by decide) | omega)) rfl))), (e_uq hw88 (Or.inl (by first | decide | exact e_neo (by decide) | exact e_ne1 (by decide) | exact e_ne2 (by decide) | omega)) (e_uq hw82 (Or.inl (by first | decide | exact e_neo (by decide) | exact e_ne1 (by decide) | exact e_ne2 (by decide) | omega)) rfl)), by omega, (e_uq hw88 (Or.inr (by first | decide | exact e_neo (by decide) | exact e_ne1 (by decide) | exact e_ne2 (by decide) | omega)) (e_uq hw82 (Or.inr (by first | decide | exact e_neo (by decide) | exact e_ne1 (by decide) | exact e_ne2 (by decide) | omega)) rfl))⟩⟩
end
end
-- part 59b
section
noncomputable section
/-! what a try says of the region y = 3 z + k -/
theorem tryOk.all {w : eW} {a n z y k : Int} {dl sg pi en : Int → Int} {an : Int → Int → Prop} (h : tryOk w a n dl sg pi en an z) (hy : y = 3 * z + k) (hk : 0 ≤ k ∧ k ≤ 2) :
    ((k = 2 ∧ pi y = pi (w 331 (900 * a + z)) + 1) ∨ (k ≠ 2 ∧ pi y = pi (w 331 (900 * a + z)))) ∧ (k = 0 → w 332 (900 * a + z) < 0 ∨ en y ≤ w 332 (900 * a + z)) ∧ (k ≤ 1 → w 333 (900 * a + z) < 0 ∨ en y ≤ w 333 (900 * a + z)) ∧ en y ≤ w 334 (900 * a + z) := by
  obtain ⟨h1, h2, h3, h4, h5, -, -⟩ := h
  subst hy
  obtain rfl | rfl | rfl : k = 0 ∨ k = 1 ∨ k = 2 := by omega
  · rw [show 3 * z + 0 = 3 * z by omega]
    exact ⟨by omega, fun _ => by rcases h3 with h | h <;> omega, fun _ => by rcases h4 with h | h <;> omega, by omega⟩
  · exact ⟨by omega, fun _ => by omega, fun _ => by rcases h4 with h | h <;> omega, by omega⟩
  · exact ⟨by omega, fun _ => by omega, fun _ => by omega, by omega⟩
end
end
