noncomputable section
/-! the compiler's methods for expressions: what they keep -/
def mEx (n m c k : Int) : Prop := ((c = 328 ∨ c = 329 ∨ c = 330) ∧ n + 40000 ≤ k) ∨ ((341 ≤ c ∧ c ≤ 344) ∧ m ≤ k) ∨ (c = 275 ∧ (k = 78 ∨ (83 ≤ k ∧ k ≤ 89) ∨ k = 94))
def cSt (w : eW) (N : Int) : Prop := e_Has mTy w ∧ e_Has hTy w ∧ w 275 9 = N ∧ tkS w N ∧ -1 ≤ w 275 81 ∧ w 275 81 ≤ 2700
def cLn (w w' : eW) (F : Int) : Prop := w 275 86 ≤ w' 275 86 ∧ w 275 78 ≤ w' 275 78 ∧ (w' 275 88 = 0 → w' 275 78 ≤ w 275 78 + 2 * (w' 275 86 - w 275 86)) ∧ w' 275 78 ≤ w 275 78 + 2 * (w' 275 86 - w 275 86) + F ∧ w 275 94 ≤ w' 275 94 ∧ w' 275 94 ≤ w 275 94 + (w' 275 86 - w 275 86) ∧ w 275 83 - 1 ≤ w' 275 83 ∧ w' 275 83 ≤ w 275 83 ∧ (w' 275 88 = 0 → w' 275 83 = w 275 83 ∧ w 275 86 < w' 275 86)
def exQ (w w' : eW) (N nt : Int) (P : Int → Prop) (s e F : Int) : Prop := e_fr (mEx (w 275 78) (w 275 94)) w w' ∧ cSt w' N ∧ cLn w w' F ∧ (w' 275 88 = 0 → wfE w' N (w' 275 78) (w' 275 94) nt P s e)
/-- a method for expressions: it leaves one number more, or a fault -/
def exC (M : Nat) (o F : Int) (d : Nat) : Prop := ∀ (w : eW) (N nt s e : Int) (P : Int → Prop), cSt w N → (0 ≤ N ∧ N ≤ 4000) → w 275 88 = 0 → w 275 83 = o → w 275 81 = s → (0 ≤ w 275 78 ∧ w 275 78 + 2 * (N - w 275 86) ≤ 8100 ∧ 0 ≤ w 275 94 ∧ w 275 94 + (N - w 275 86) ≤ 4050) → wfE w N (w 275 78) (w 275 94) nt P s e → e ≤ w 275 86 →
  e_Ok 20 elay ecode eI d M (0, [(0, (1, 275))], [], w) (fun r w' => r = [] ∧ exQ w w' N nt P s (e + 1) F)
theorem EM.T {w w' : eW} {n o x s : Int} (h : e_Has mTy w) (he : EM w w' n o x s) (ho : -2147483648 ≤ o ∧ o ≤ 2147483647) (hx : -2147483648 ≤ x ∧ x ≤ 2147483647) (hs : -2147483648 ≤ s ∧ s ≤ 2147483647) : e_Has mTy w' := fun c k hl => by
  by_cases q : ((c = 328 ∨ c = 329 ∨ c = 330) ∧ k = n + 40000) ∨ (c = 275 ∧ k = 78)
  · rcases q with ⟨q1 | q1 | q1, q2⟩ | ⟨q1, q2⟩
    · rw [q1, q2, he.2.1]; exact ho
    · rw [q1, q2, he.2.2.1]; exact hx
    · rw [q1, q2, he.2.2.2.1]; exact hs
    · rw [q1, q2] at hl; exact absurd hl (by decide : ¬ ((1 : Int) ≤ 0))
  · rw [he.1 c k q]; exact h c k hl
theorem EM.H {w w' : eW} {n o x s : Int} (h : e_Has hTy w) (he : EM w w' n o x s) : e_Has hTy w' := fun c k hl => by
  by_cases q : ((c = 328 ∨ c = 329 ∨ c = 330) ∧ k = n + 40000) ∨ (c = 275 ∧ k = 78)
  · rcases q with ⟨q1 | q1 | q1, q2⟩ | ⟨q1, q2⟩
    · rw [q1] at hl; exact absurd hl (by decide : ¬ ((1 : Int) ≤ 0))
    · rw [q1] at hl; exact absurd hl (by decide : ¬ ((1 : Int) ≤ 0))
    · rw [q1] at hl; exact absurd hl (by decide : ¬ ((1 : Int) ≤ 0))
    · rw [q1, q2] at hl; exact absurd hl (by decide : ¬ ((1 : Int) ≤ 0))
  · rw [he.1 c k q]; exact h c k hl
theorem cSt.em {w w' : eW} {N n o x s : Int} (h : cSt w N) (he : EM w w' n o x s) (ho : -2147483648 ≤ o ∧ o ≤ 2147483647) (hx : -2147483648 ≤ x ∧ x ≤ 2147483647) (hs : -2147483648 ≤ s ∧ s ≤ 2147483647) : cSt w' N := by
  obtain ⟨h1, h2, h3, h4, h5⟩ := h
  have e : ∀ k, k ≠ 78 → w' 275 k = w 275 k := fun k q => he.1 275 k (by omega)
  refine ⟨EM.T h1 he ho hx hs, EM.H h2 he, by rw [e 9 (by decide)]; exact h3, ?_, by rw [e 81 (by decide)]; exact h5⟩
  unfold tkS
  rw [e 86 (by decide), e 87 (by decide), e 84 (by decide), e 85 (by decide)]
  exact h4
theorem cSt.tk {w w' : eW} {N : Int} (h : cSt w N) (hf : e_fr mTq w w') (ht : tkS w' N) : cSt w' N :=
  ⟨mT_Tq hf h.1, hT_Tq hf h.2.1, by rw [hf 275 9 (by unfold mTq; omega)]; exact h.2.2.1, ht, by rw [hf 275 81 (by unfold mTq; omega)]; exact h.2.2.2.2⟩
theorem cSt.rf {w w' : eW} {N : Int} (h : cSt w N) (hf : e_fr mRf w w') (hT : e_Has mTy w') (hH : e_Has hTy w') : cSt w' N := by
  refine ⟨hT, hH, by rw [hf 275 9 (by unfold mRf; omega)]; exact h.2.2.1, ?_, by rw [hf 275 81 (by unfold mRf; omega)]; exact h.2.2.2.2⟩
  unfold tkS
  rw [hf 275 86 (by unfold mRf; omega), hf 275 87 (by unfold mRf; omega), hf 275 84 (by unfold mRf; omega), hf 275 85 (by unfold mRf; omega)]
  exact h.2.2.2.1
theorem cSt.nm {w w' : eW} {N : Int} (h : cSt w N) (hf : e_fr mNm w w') : cSt w' N := by
  refine ⟨mT_Nm hf h.1, hT_Nm hf h.2.1, by rw [hf 275 9 (by unfold mNm; omega)]; exact h.2.2.1, ?_, by rw [hf 275 81 (by unfold mNm; omega)]; exact h.2.2.2.2⟩
  unfold tkS
  rw [hf 275 86 (by unfold mNm; omega), hf 275 87 (by unfold mNm; omega), hf 275 84 (by unfold mNm; omega), hf 275 85 (by unfold mNm; omega)]
  exact h.2.2.2.1
/-- the field of nesting -/
theorem up83 {w w' : eW} {z : Int} (hw : e_up w 275 83 z = w') : (∀ c k, ¬ (c = 275 ∧ k = 83) → w' c k = w c k) ∧ w' 275 83 = z := by
  subst hw
  exact ⟨fun c k q => e_up_ne _ _ (by omega), e_up_eq _ _ _ _⟩
theorem cSt.up {w w' : eW} {N z : Int} (h : cSt w N) (hw : e_up w 275 83 z = w') : cSt w' N := by
  have e := (up83 hw).1
  have n83 : ∀ {ty : Int → Int → Int × Int}, (ty 275 83).1 = 1 → (ty 275 83).2 = 0 → e_Has ty w → e_Has ty w' := fun {ty} q1 q2 q c k hl => by
    by_cases g : c = 275 ∧ k = 83
    · rw [g.1, g.2, q1, q2] at hl; exact absurd hl (by decide)
    · rw [e c k g]; exact q c k hl
  refine ⟨n83 rfl rfl h.1, n83 rfl rfl h.2.1, by rw [e 275 9 (by omega)]; exact h.2.2.1, ?_, by rw [e 275 81 (by omega)]; exact h.2.2.2.2⟩
  unfold tkS
  rw [e 275 86 (by omega), e 275 87 (by omega), e 275 84 (by omega), e 275 85 (by omega)]
  exact h.2.2.2.1
theorem prE.tk {w w' : eW} (h : e_fr mTq w w') : prE w w' := fun c k q => h c k (by unfold mTq; omega)
theorem prE.rf {w w' : eW} (h : e_fr mRf w w') : prE w w' := fun c k q => h c k (by unfold mRf; omega)
theorem prE.up {w w' : eW} {z : Int} (hw : e_up w 275 83 z = w') : prE w w' := fun c k q => (up83 hw).1 c k (by omega)
theorem prE.trans {a b c : eW} (h : prE a b) (g : prE b c) : prE a c := fun x k q => (g x k q).trans (h x k q)
theorem wfE.cg {w : eW} {N n mm nt s d : Int} {P P' : Int → Prop} (h : wfE w N n mm nt P s d) (g : ∀ p, P' p ↔ P p) : wfE w N n mm nt P' s d := by
  obtain ⟨h1, h2, h3⟩ := h
  refine ⟨fun p g1 g2 => ?_, fun o ho p g1 g2 => ?_, h3.1, h3.2.1, h3.2.2.1, h3.2.2.2.1, h3.2.2.2.2.cg (fun p _ z => (g p).2 z)⟩
  · obtain ⟨i1, i2, i3⟩ := h1 p g1 g2
    exact ⟨i1, i2, fun q => i3 (fun z => q ((g p).2 z))⟩
  · exact ⟨(h2 o ho p g1 g2).1, fun q => (h2 o ho p g1 g2).2 (fun z => q ((g p).2 z))⟩
theorem cSt.cl {w w1 w' : eW} {N n s : Int} {Q : Int → Prop} (h : cSt w N) (he : EM w w1 n 24 0 s) (ho : ∀ c k, ¬ (c = 329 ∧ ∃ p, Q p ∧ k = p + 40000) → w' c k = w1 c k) (hT : e_Has mTy w') (hs : -2147483648 ≤ s ∧ s ≤ 2147483647) : cSt w' N := by
  have h1 := h.em he (by decide) (by decide) hs
  obtain ⟨-, h2, h3, h4, h5⟩ := h1
  have e : ∀ k, w' 275 k = w1 275 k := fun k => ho 275 k (fun q => absurd q.1 (by decide))
  refine ⟨hT, fun c k hl => ?_, by rw [e]; exact h3, by unfold tkS; rw [e, e, e, e]; exact h4, by rw [e]; exact h5⟩
  by_cases q : c = 329
  · rw [q] at hl; exact absurd hl (by decide : ¬ ((1 : Int) ≤ 0))
  · rw [ho c k (fun z => q z.1)]; exact h2 c k hl
/-- of the places of a chain -/
def chO (w : eW) (Q : Int → Prop) (s e : Int) : Prop := ∀ p, Q p → (w 328 (p + 40000) = 22 ∨ w 328 (p + 40000) = 23) ∧ dp w p = e ∧ w 330 (p + 40000) = s
theorem chO.keep {w w' : eW} {Q : Int → Prop} {n s e : Int} (h : chO w Q s e) (hQ : ∀ p, Q p → 0 ≤ p ∧ p < n) (h8 : ∀ p, p < n → w' 328 (p + 40000) = w 328 (p + 40000) ∧ w' 330 (p + 40000) = w 330 (p + 40000)) : chO w' Q s e := fun p g => by
  obtain ⟨q1, q2, q3⟩ := h p g
  have := hQ p g
  rw [(h8 p this.2).1, (h8 p this.2).2, dp_eq (w := w) (w' := w') (fun k _ k2 => (h8 k (by omega)).1)]
  exact ⟨q1, q2, q3⟩
theorem chO.add {w w' : eW} {Q : Int → Prop} {n s e o x : Int} (h : chO w Q s e) (hQ : ∀ p, Q p → 0 ≤ p ∧ p < n) (he : EM w w' n o x s) (ho : o = 22 ∨ o = 23) (hd : dp w n = e) : chO w' (fun p => Q p ∨ p = n) s e := fun p g => by
  by_cases c : p = n
  · subst c
    rw [he.2.1, he.2.2.2.1, he.dq (Int.le_refl p)]
    exact ⟨ho, hd, rfl⟩
  · have gp := g.resolve_right c
    have := hQ p gp
    rw [he.1 328 _ (by omega), he.1 330 _ (by omega), he.dq (by omega)]
    exact h p gp
end
