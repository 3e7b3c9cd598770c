-- part a0
section
noncomputable section
/-! the compiler's methods for expressions: what they keep -/
def mEx (n m c k : Int) : Prop := ((c = 328 ∨ c = 329 ∨ c = 330) ∧ n + 40000 ≤ k) ∨ ((341 ≤ c ∧ c ≤ 344) ∧ m ≤ k) ∨ (c = 275 ∧ (k = 78 ∨ (83 ≤ k ∧ k ≤ 89) ∨ k = 94))
def cSt (w : eW) (N : Int) : Prop := e_Has mTy w ∧ e_Has hTy w ∧ w 275 9 = N ∧ tkS w N ∧ -1 ≤ w 275 81 ∧ w 275 81 ≤ 2700
def cLn (w w' : eW) (F : Int) : Prop := w 275 86 ≤ w' 275 86 ∧ w 275 78 ≤ w' 275 78 ∧ (w' 275 88 = 0 → w' 275 78 ≤ w 275 78 + 2 * (w' 275 86 - w 275 86)) ∧ w' 275 78 ≤ w 275 78 + 2 * (w' 275 86 - w 275 86) + F ∧ w 275 94 ≤ w' 275 94 ∧ w' 275 94 ≤ w 275 94 + (w' 275 86 - w 275 86) ∧ w 275 83 - 1 ≤ w' 275 83 ∧ w' 275 83 ≤ w 275 83 ∧ (w' 275 88 = 0 → w' 275 83 = w 275 83 ∧ w 275 86 < w' 275 86)
def exQ (w w' : eW) (N nt : Int) (P : Int → Prop) (s e F : Int) : Prop := e_fr (mEx (w 275 78) (w 275 94)) w w' ∧ cSt w' N ∧ cLn w w' F ∧ (w' 275 88 = 0 → wfE w' N (w' 275 78) (w' 275 94) nt P s e)
/-- a method for expressions: it leaves one number more, or a fault -/
def exC (M : Nat) (o F : Int) (d : Nat) : Prop := ∀ (w : eW) (N nt s e : Int) (P : Int → Prop), cSt w N → (0 ≤ N ∧ N ≤ 4000) → w 275 88 = 0 → w 275 83 = o → w 275 81 = s → (0 ≤ w 275 78 ∧ w 275 78 + 2 * (N - w 275 86) ≤ 8100 ∧ 0 ≤ w 275 94 ∧ w 275 94 + (N - w 275 86) ≤ 4050) → wfE w N (w 275 78) (w 275 94) nt P s e → e ≤ w 275 86 →
  e_Ok 20 elay ecode eI d M (0, [(0, (1, 275))], [], w) (fun r w' => r = [] ∧ exQ w w' N nt P s (e + 1) F)
theorem EM.T {w w' : eW} {n o x s : Int} (h : e_Has mTy w) (he : EM w w' n o x s) (ho : -2147483648 ≤ o ∧ o ≤ 2147483647) (hx : -2147483648 ≤ x ∧ x ≤ 2147483647) (hs : -2147483648 ≤ s ∧ s ≤ 2147483647) : e_Has mTy w' := fun c k hl => by
  by_cases q : ((c = 328 ∨ c = 329 ∨ c = 330) ∧ k = n + 40000) ∨ (c = 275 ∧ k = 78)
  · rcases q with ⟨q1 | q1 | q1, q2⟩ | ⟨q1, q2⟩
    · rw [q1, q2, he.2.1]; exact ho
    · rw [q1, q2, he.2.2.1]; exact hx
    · rw [q1, q2, he.2.2.2.1]; exact hs
    · rw [q1, q2] at hl; exact absurd hl (by decide : ¬ ((1 : Int) ≤ 0))
  · rw [he.1 c k q]; exact h c k hl
theorem EM.H {w w' : eW} {n o x s : Int} (h : e_Has hTy w) (he : EM w w' n o x s) : e_Has hTy w' := fun c k hl => by
  by_cases q : ((c = 328 ∨ c = 329 ∨ c = 330) ∧ k = n + 40000) ∨ (c = 275 ∧ k = 78)
  · rcases q with ⟨q1 | q1 | q1, q2⟩ | ⟨q1, q2⟩
    · rw [q1] at hl; exact absurd hl (by decide : ¬ ((1 : Int) ≤ 0))
    · rw [q1] at hl; exact absurd hl (by decide : ¬ ((1 : Int) ≤ 0))
    · rw [q1] at hl; exact absurd hl (by decide : ¬ ((1 : Int) ≤ 0))
    · rw [q1, q2] at hl; exact absurd hl (by decide : ¬ ((1 : Int) ≤ 0))
  · rw [he.1 c k q]; exact h c k hl
theorem cSt.em {w w' : eW} {N n o x s : Int} (h : cSt w N) (he : EM w w' n o x s) (ho : -2147483648 ≤ o ∧ o ≤ 2147483647) (hx : -2147483648 ≤ x ∧ x ≤ 2147483647) (hs : -2147483648 ≤ s ∧ s ≤ 2147483647) : cSt w' N := by
  obtain ⟨h1, h2, h3, h4, h5⟩ := h
  have e : ∀ k, k ≠ 78 → w' 275 k = w 275 k := fun k q => he.1 275 k (by omega)
  refine ⟨EM.T h1 he ho hx hs, EM.H h2 he, by rw [e 9 (by decide)]; exact h3, ?_, by rw [e 81 (by decide)]; exact h5⟩
  unfold tkS
  rw [e 86 (by decide), e 87 (by decide), e 84 (by decide), e 85 (by decide)]
  exact h4
theorem no_a0_0 : ¬ mTq 275 9 := by unfold mTq; omega
theorem no_a0_1 : ¬ mTq 275 81 := by unfold mTq; omega
theorem cSt.tk {w w' : eW} {N : Int} (h : cSt w N) (hf : e_fr mTq w w') (ht : tkS w' N) : cSt w' N :=
  ⟨mT_Tq hf h.1, hT_Tq hf h.2.1, by rw [hf 275 9 no_a0_0]; exact h.2.2.1, ht, by rw [hf 275 81 no_a0_1]; exact h.2.2.2.2⟩
theorem no_a0_2 : ¬ mRf 275 9 := by unfold mRf; omega
theorem no_a0_3 : ¬ mRf 275 81 := by unfold mRf; omega
theorem no_a0_4 : ¬ mRf 275 86 := by unfold mRf; omega
theorem no_a0_5 : ¬ mRf 275 87 := by unfold mRf; omega
theorem no_a0_6 : ¬ mRf 275 84 := by unfold mRf; omega
theorem no_a0_7 : ¬ mRf 275 85 := by unfold mRf; omega
theorem cSt.rf {w w' : eW} {N : Int} (h : cSt w N) (hf : e_fr mRf w w') (hT : e_Has mTy w') (hH : e_Has hTy w') : cSt w' N := by
  refine ⟨hT, hH, by rw [hf 275 9 no_a0_2]; exact h.2.2.1, ?_, by rw [hf 275 81 no_a0_3]; exact h.2.2.2.2⟩
  unfold tkS
  rw [hf 275 86 no_a0_4, hf 275 87 no_a0_5, hf 275 84 no_a0_6, hf 275 85 no_a0_7]
  exact h.2.2.2.1
theorem no_a0_8 : ¬ mNm 275 9 := by unfold mNm; omega
theorem no_a0_9 : ¬ mNm 275 81 := by unfold mNm; omega
theorem no_a0_10 : ¬ mNm 275 86 := by unfold mNm; omega
theorem no_a0_11 : ¬ mNm 275 87 := by unfold mNm; omega
theorem no_a0_12 : ¬ mNm 275 84 := by unfold mNm; omega
theorem no_a0_13 : ¬ mNm 275 85 := by unfold mNm; omega
theorem cSt.nm {w w' : eW} {N : Int} (h : cSt w N) (hf : e_fr mNm w w') : cSt w' N := by
  refine ⟨mT_Nm hf h.1, hT_Nm hf h.2.1, by rw [hf 275 9 no_a0_8]; exact h.2.2.1, ?_, by rw [hf 275 81 no_a0_9]; exact h.2.2.2.2⟩
  unfold tkS
  rw [hf 275 86 no_a0_10, hf 275 87 no_a0_11, hf 275 84 no_a0_12, hf 275 85 no_a0_13]
  exact h.2.2.2.1
/-- the field of nesting -/
theorem up83 {w w' : eW} {z : Int} (hw : e_up w 275 83 z = w') : (∀ c k, ¬ (c = 275 ∧ k = 83) → w' c k = w c k) ∧ w' 275 83 = z := by
  subst hw
  exact ⟨fun c k q => e_up_ne _ _ (by omega), e_up_eq _ _ _ _⟩
theorem cSt.up {w w' : eW} {N z : Int} (h : cSt w N) (hw : e_up w 275 83 z = w') : cSt w' N := by
  have e := (up83 hw).1
  have n83 : ∀ {ty : Int → Int → Int × Int}, (ty 275 83).1 = 1 → (ty 275 83).2 = 0 → e_Has ty w → e_Has ty w' := fun {ty} q1 q2 q c k hl => by
    by_cases g : c = 275 ∧ k = 83
    · rw [g.1, g.2, q1, q2] at hl; exact absurd hl (by decide)
    · rw [e c k g]; exact q c k hl
  refine ⟨n83 rfl rfl h.1, n83 rfl rfl h.2.1, by rw [e 275 9 (by omega)]; exact h.2.2.1, ?_, by rw [e 275 81 (by omega)]; exact h.2.2.2.2⟩
  unfold tkS
  rw [e 275 86 (by omega), e 275 87 (by omega), e 275 84 (by omega), e 275 85 (by omega)]
  exact h.2.2.2.1
theorem prE.tk {w w' : eW} (h : e_fr mTq w w') : prE w w' := fun c k q => h c k (by unfold mTq; omega)
theorem prE.rf {w w' : eW} (h : e_fr mRf w w') : prE w w' := fun c k q => h c k (by unfold mRf; omega)
theorem prE.up {w w' : eW} {z : Int} (hw : e_up w 275 83 z = w') : prE w w' := fun c k q => (up83 hw).1 c k (by omega)
theorem prE.trans {a b c : eW} (h : prE a b) (g : prE b c) : prE a c := fun x k q => (g x k q).trans (h x k q)
theorem wfE.cg {w : eW} {N n mm nt s d : Int} {P P' : Int → Prop} (h : wfE w N n mm nt P s d) (g : ∀ p, P' p ↔ P p) : wfE w N n mm nt P' s d := by
  obtain ⟨h1, h2, h3⟩ := h
  refine ⟨fun p g1 g2 => ?_, fun o ho p g1 g2 => ?_, h3.1, h3.2.1, h3.2.2.1, h3.2.2.2.1, h3.2.2.2.2.cg (fun p _ z => (g p).2 z)⟩
  · obtain ⟨i1, i2, i3⟩ := h1 p g1 g2
    exact ⟨i1, i2, fun q => i3 (fun z => q ((g p).2 z))⟩
  · exact ⟨(h2 o ho p g1 g2).1, fun q => (h2 o ho p g1 g2).2 (fun z => q ((g p).2 z))⟩
theorem cSt.cl {w w1 w' : eW} {N n s : Int} {Q : Int → Prop} (h : cSt w N) (he : EM w w1 n 24 0 s) (ho : ∀ c k, ¬ (c = 329 ∧ ∃ p, Q p ∧ k = p + 40000) → w' c k = w1 c k) (hT : e_Has mTy w') (hs : -2147483648 ≤ s ∧ s ≤ 2147483647) : cSt w' N := by
  have h1 := h.em he (by decide) (by decide) hs
  obtain ⟨-, h2, h3, h4, h5⟩ := h1
  have e : ∀ k, w' 275 k = w1 275 k := fun k => ho 275 k (fun q => absurd q.1 (by decide))
  refine ⟨hT, fun c k hl => ?_, by rw [e]; exact h3, by unfold tkS; rw [e, e, e, e]; exact h4, by rw [e]; exact h5⟩
  by_cases q : c = 329
  · rw [q] at hl; exact absurd hl (by decide : ¬ ((1 : Int) ≤ 0))
  · rw [ho c k (fun z => q z.1)]; exact h2 c k hl
/-- of the places of a chain -/
def chO (w : eW) (Q : Int → Prop) (s e : Int) : Prop := ∀ p, Q p → (w 328 (p + 40000) = 22 ∨ w 328 (p + 40000) = 23) ∧ dp w p = e ∧ w 330 (p + 40000) = s
theorem chO.keep {w w' : eW} {Q : Int → Prop} {n s e : Int} (h : chO w Q s e) (hQ : ∀ p, Q p → 0 ≤ p ∧ p < n) (h8 : ∀ p, p < n → w' 328 (p + 40000) = w 328 (p + 40000) ∧ w' 330 (p + 40000) = w 330 (p + 40000)) : chO w' Q s e := fun p g => by
  obtain ⟨q1, q2, q3⟩ := h p g
  have := hQ p g
  rw [(h8 p this.2).1, (h8 p this.2).2, dp_eq (w := w) (w' := w') (fun k _ k2 => (h8 k (by omega)).1)]
  exact ⟨q1, q2, q3⟩
theorem chO.add {w w' : eW} {Q : Int → Prop} {n s e o x : Int} (h : chO w Q s e) (hQ : ∀ p, Q p → 0 ≤ p ∧ p < n) (he : EM w w' n o x s) (ho : o = 22 ∨ o = 23) (hd : dp w n = e) : chO w' (fun p => Q p ∨ p = n) s e := fun p g => by
  by_cases c : p = n
  · subst c
    rw [he.2.1, he.2.2.2.1, he.dq (Int.le_refl p)]
    exact ⟨ho, hd, rfl⟩
  · have gp := g.resolve_right c
    have := hQ p gp
    rw [he.1 328 _ (by omega), he.1 330 _ (by omega), he.dq (by omega)]
    exact h p gp
end
end
-- part a1
section
noncomputable section
theorem wfE.d {w : eW} {N n mm nt s d d' : Int} {P : Int → Prop} (h : wfE w N n mm nt P s d) (e : d = d') : wfE w N n mm nt P s d' := e ▸ h
theorem Hid.mk {p : Prop} (h : p) : Hid p := h
theorem tkS.lin {w : eW} {N : Int} (h : tkS w N) : (0 ≤ w 275 86 ∧ w 275 86 ≤ w 275 87 ∧ w 275 87 ≤ N) ∧ (0 ≤ w 275 84 ∧ w 275 84 ≤ 5) ∧ -2147483648 ≤ w 275 85 ∧ w 275 85 ≤ 2147483647 := ⟨h.1, h.2.1, h.2.2.2.2.2⟩
theorem tkS.pos {w : eW} {N : Int} (h : tkS w N) (hk : w 275 84 ≠ 0) : w 275 86 < w 275 87 := h.2.2.2.1 hk
theorem tkS.key {w : eW} {N : Int} (h : tkS w N) (hk : w 275 84 = 4) : w 275 86 + 2 ≤ w 275 87 ∧ 0 ≤ w 275 85 ∧ w 275 85 ≤ 32 := h.2.2.2.2.1 hk
theorem c_346_0 {d : Nat} (hd : 23 ≤ d) {w : eW} {N : Int} (hc : cSt w N) (hf : w 275 88 ≠ 0) : e_Ok 20 elay ecode eI d 346 (0, [(0, (1, 275))], [], w) (fun r w' => r = [] ∧ w = w') := by
  obtain ⟨d, rfl⟩ : ∃ e, d = e + 1 := ⟨d - 1, by omega⟩
  have hct := tkS.lin hc.2.2.2.1
  have hcf := e_Has.get hc.2.1 (c := 275) (k := 88) (lo := 0) (hi := 7) rfl (by decide)
  refine e_Ok.ps1 (x := (1, 275)) (q := 1) 1 rfl ?_
  refine e_Ok.getf (z := w 275 88) rfl (el_o rfl) rfl (ef_o rfl) rfl (by omega) ?_
  refine e_Ok.if1 rfl (fun h1 => ?_) (fun h1 => ?_)
  · replace h1 : (w 275 88 : Int) = 0 := h1
    exfalso; omega
  · replace h1 : (w 275 88 : Int) ≠ 0 := (show ¬ ((w 275 88 : Int) = 0) from h1)
    refine e_Ok.rets rfl rfl ?_
    exact ⟨rfl, rfl⟩
theorem c_344_0 {d : Nat} (hd : 24 ≤ d) {w : eW} {N : Int} (hc : cSt w N) (hf : w 275 88 ≠ 0) : e_Ok 20 elay ecode eI d 344 (0, [(0, (1, 275))], [], w) (fun r w' => r = [] ∧ w = w') := by
  obtain ⟨d, rfl⟩ : ∃ e, d = e + 1 := ⟨d - 1, by omega⟩
  have hct := tkS.lin hc.2.2.2.1
  have hcf := e_Has.get hc.2.1 (c := 275) (k := 88) (lo := 0) (hi := 7) rfl (by decide)
  refine e_Ok.ps1 (x := (1, 275)) (q := 1) 1 rfl ?_
  refine e_Ok.callV rfl (e_dq hd rfl) rfl rfl rfl rfl (c_346_0 (e_dq hd rfl) hc hf) (fun r1 w2 h3 => ?_)
  obtain ⟨rfl, rfl⟩ := h3
  refine e_Ok.nrm (q := 4) (st' := []) rfl rfl ?_
  refine e_Ok.ps1 (x := (1, 275)) (q := 5) 1 rfl ?_
  refine e_Ok.getf (z := w 275 88) rfl (el_o rfl) rfl (ef_o rfl) rfl (by omega) ?_
  refine e_Ok.if1 rfl (fun h4 => ?_) (fun h4 => ?_)
  · replace h4 : (w 275 88 : Int) ≠ 0 := h4
    refine e_Ok.rets rfl rfl ?_
    exact ⟨rfl, rfl⟩
  · replace h4 : (w 275 88 : Int) = 0 := Classical.not_not.mp (show ¬ ((w 275 88 : Int) ≠ 0) from h4)
    exfalso; omega
theorem c_343_0 {d : Nat} (hd : 25 ≤ d) {w : eW} {N : Int} (hc : cSt w N) (hf : w 275 88 ≠ 0) : e_Ok 20 elay ecode eI d 343 (0, [(0, (1, 275))], [], w) (fun r w' => r = [] ∧ w = w') := by
  obtain ⟨d, rfl⟩ : ∃ e, d = e + 1 := ⟨d - 1, by omega⟩
  have hct := tkS.lin hc.2.2.2.1
  have hcf := e_Has.get hc.2.1 (c := 275) (k := 88) (lo := 0) (hi := 7) rfl (by decide)
  refine e_Ok.ps1 (x := (1, 275)) (q := 1) 1 rfl ?_
  refine e_Ok.callV rfl (e_dq hd rfl) rfl rfl rfl rfl (c_344_0 (e_dq hd rfl) hc hf) (fun r1 w2 h3 => ?_)
  obtain ⟨rfl, rfl⟩ := h3
  refine e_Ok.nrm (q := 4) (st' := []) rfl rfl ?_
  refine e_Ok.ps1 (x := (1, 275)) (q := 5) 1 rfl ?_
  refine e_Ok.getf (z := w 275 88) rfl (el_o rfl) rfl (ef_o rfl) rfl (by omega) ?_
  refine e_Ok.if1 rfl (fun h4 => ?_) (fun h4 => ?_)
  · replace h4 : (w 275 88 : Int) ≠ 0 := h4
    refine e_Ok.rets rfl rfl ?_
    exact ⟨rfl, rfl⟩
  · replace h4 : (w 275 88 : Int) = 0 := Classical.not_not.mp (show ¬ ((w 275 88 : Int) ≠ 0) from h4)
    exfalso; omega
theorem c_342_0 {d : Nat} (hd : 26 ≤ d) {w : eW} {N : Int} (hc : cSt w N) (hf : w 275 88 ≠ 0) : e_Ok 20 elay ecode eI d 342 (0, [(0, (1, 275))], [], w) (fun r w' => r = [] ∧ w = w') := by
  obtain ⟨d, rfl⟩ : ∃ e, d = e + 1 := ⟨d - 1, by omega⟩
  have hct := tkS.lin hc.2.2.2.1
  have hcf := e_Has.get hc.2.1 (c := 275) (k := 88) (lo := 0) (hi := 7) rfl (by decide)
  refine e_Ok.ps1 (x := (1, 275)) (q := 1) 1 rfl ?_
  refine e_Ok.getf (z := w 275 88) rfl (el_o rfl) rfl (ef_o rfl) rfl (by omega) ?_
  refine e_Ok.if1 rfl (fun h1 => ?_) (fun h1 => ?_)
  · replace h1 : (w 275 88 : Int) ≠ 0 := h1
    refine e_Ok.ps1 (x := (1, 275)) (q := 48) 1 rfl ?_
    refine e_Ok.callV rfl (e_dq hd rfl) rfl rfl rfl rfl (c_343_0 (e_dq hd rfl) hc hf) (fun r2 w3 h4 => ?_)
    obtain ⟨rfl, rfl⟩ := h4
    refine e_Ok.nrm (q := 51) (st' := []) rfl rfl ?_
    refine e_Ok.ps1 (x := (1, 275)) (q := 52) 1 rfl ?_
    refine e_Ok.getf (z := w 275 88) rfl (el_o rfl) rfl (ef_o rfl) rfl (by omega) ?_
    refine e_Ok.if1 rfl (fun h5 => ?_) (fun h5 => ?_)
    · replace h5 : (w 275 88 : Int) ≠ 0 := h5
      refine e_Ok.run (t' := (157, [(1, (0, 0)), (0, (1, 275))], [(0, 0)], w)) 4 rfl ?_
      refine e_Ok.if1 rfl (fun h6 => ?_) (fun h6 => ?_)
      · replace h6 : (0 : Int) = 0 := h6
        refine e_Ok.rets rfl rfl ?_
        exact ⟨rfl, rfl⟩
      · replace h6 : (0 : Int) ≠ 0 := (show ¬ ((0 : Int) = 0) from h6)
        exfalso; omega
    · replace h5 : (w 275 88 : Int) = 0 := Classical.not_not.mp (show ¬ ((w 275 88 : Int) ≠ 0) from h5)
      exfalso; omega
  · replace h1 : (w 275 88 : Int) = 0 := Classical.not_not.mp (show ¬ ((w 275 88 : Int) ≠ 0) from h1)
    exfalso; omega
theorem c_341_n {d : Nat} (hd : 22 ≤ d) {w : eW} (hT : e_Has mTy w) : e_Ok 20 elay ecode eI d 341 (0, [(0, (1, 275)), (1, (0, (-1)))], [], w) (fun r w' => r = [] ∧ w = w') := by
  obtain ⟨d, rfl⟩ : ∃ e, d = e + 1 := ⟨d - 1, by omega⟩
  refine e_Ok.ps1 (x := (0, (-1))) (q := 1) 1 rfl ?_
  refine e_Ok.if1 rfl (fun h1 => ?_) (fun h1 => ?_)
  · replace h1 : ((-1) : Int) ≥ 0 := h1
    exfalso; omega
  · replace h1 : ((-1) : Int) < 0 := Int.not_le.mp (show ¬ (((-1) : Int) ≥ 0) from h1)
    refine e_Ok.rets rfl rfl ?_
    exact ⟨rfl, rfl⟩
theorem c_340_0 {d : Nat} (hd : 27 ≤ d) {w : eW} {N : Int} (hc : cSt w N) (hf : w 275 88 ≠ 0) : e_Ok 20 elay ecode eI d 340 (0, [(0, (1, 275))], [], w) (fun r w' => r = [] ∧ w = w') := by
  obtain ⟨d, rfl⟩ : ∃ e, d = e + 1 := ⟨d - 1, by omega⟩
  have hct := tkS.lin hc.2.2.2.1
  have hcf := e_Has.get hc.2.1 (c := 275) (k := 88) (lo := 0) (hi := 7) rfl (by decide)
  refine e_Ok.ps1 (x := (1, 275)) (q := 1) 1 rfl ?_
  refine e_Ok.callV rfl (e_dq hd rfl) rfl rfl rfl rfl (c_342_0 (e_dq hd rfl) hc hf) (fun r1 w2 h3 => ?_)
  obtain ⟨rfl, rfl⟩ := h3
  refine e_Ok.nrm (q := 4) (st' := []) rfl rfl ?_
  refine e_Ok.run (t' := (7, [(1, (0, (-1))), (0, (1, 275))], [(1, 275)], w)) 3 rfl ?_
  refine e_Ok.getf (z := w 275 88) rfl (el_o rfl) rfl (ef_o rfl) rfl (by omega) ?_
  refine e_Ok.if1 rfl (fun h4 => ?_) (fun h4 => ?_)
  · replace h4 : (w 275 88 : Int) ≠ 0 := h4
    refine e_Ok.ps2 (x := (0, (-1))) (y := (1, 275)) (q := 43) 2 rfl ?_
    refine e_Ok.callV rfl (e_dq hd rfl) rfl rfl rfl rfl (c_341_n (e_dq hd rfl) hc.1) (fun r5 w6 h7 => ?_)
    obtain ⟨rfl, rfl⟩ := h7
    refine e_Ok.nrm (q := 46) (st' := []) rfl rfl ?_
    refine e_Ok.rets rfl rfl ?_
    exact ⟨rfl, rfl⟩
  · replace h4 : (w 275 88 : Int) = 0 := Classical.not_not.mp (show ¬ ((w 275 88 : Int) ≠ 0) from h4)
    exfalso; omega
theorem c_339_0 {d : Nat} (hd : 28 ≤ d) {w : eW} {N : Int} (hc : cSt w N) (hf : w 275 88 ≠ 0) : e_Ok 20 elay ecode eI d 339 (0, [(0, (1, 275))], [], w) (fun r w' => r = [] ∧ w = w') := by
  obtain ⟨d, rfl⟩ : ∃ e, d = e + 1 := ⟨d - 1, by omega⟩
  have hct := tkS.lin hc.2.2.2.1
  have hcf := e_Has.get hc.2.1 (c := 275) (k := 88) (lo := 0) (hi := 7) rfl (by decide)
  refine e_Ok.ps1 (x := (1, 275)) (q := 1) 1 rfl ?_
  refine e_Ok.callV rfl (e_dq hd rfl) rfl rfl rfl rfl (c_340_0 (e_dq hd rfl) hc hf) (fun r1 w2 h3 => ?_)
  obtain ⟨rfl, rfl⟩ := h3
  refine e_Ok.nrm (q := 4) (st' := []) rfl rfl ?_
  refine e_Ok.run (t' := (7, [(1, (0, (-1))), (0, (1, 275))], [(1, 275)], w)) 3 rfl ?_
  refine e_Ok.getf (z := w 275 88) rfl (el_o rfl) rfl (ef_o rfl) rfl (by omega) ?_
  refine e_Ok.if1 rfl (fun h4 => ?_) (fun h4 => ?_)
  · replace h4 : (w 275 88 : Int) ≠ 0 := h4
    refine e_Ok.ps2 (x := (0, (-1))) (y := (1, 275)) (q := 43) 2 rfl ?_
    refine e_Ok.callV rfl (e_dq hd rfl) rfl rfl rfl rfl (c_341_n (e_dq hd rfl) hc.1) (fun r5 w6 h7 => ?_)
    obtain ⟨rfl, rfl⟩ := h7
    refine e_Ok.nrm (q := 46) (st' := []) rfl rfl ?_
    refine e_Ok.rets rfl rfl ?_
    exact ⟨rfl, rfl⟩
  · replace h4 : (w 275 88 : Int) = 0 := Classical.not_not.mp (show ¬ ((w 275 88 : Int) ≠ 0) from h4)
    exfalso; omega
set_option maxHeartbeats 4000000 in
theorem c_341 {d : Nat} (hd : 22 ≤ d) {w : eW} (hT : e_Has mTy w) {n s c : Int} {Q : Int → Prop} (hn : w 275 78 = n) (hnr : 0 ≤ n ∧ n ≤ 9900) (hs : w 275 81 = s) (hsr : -2147483648 ≤ s ∧ s ≤ 2147483647) (hcr : -1 ≤ c ∧ c ≤ 9900) (hQ : CHN w n c Q) : e_Ok 20 elay ecode eI d 341 (0, [(0, (1, 275)), (1, (0, c))], [], w) (fun r w' => r = [] ∧ ((w = w' ∧ c < 0) ∨ (0 ≤ c ∧ ∃ w1, EM w w1 n 24 0 s ∧ e_Has mTy w' ∧ (∀ p, Q p → w' 329 (p + 40000) = n + 1) ∧ ∀ cc k, ¬ (cc = 329 ∧ ∃ p, Q p ∧ k = p + 40000) → w' cc k = w1 cc k))) := by
  obtain ⟨d, rfl⟩ : ∃ e, d = e + 1 := ⟨d - 1, by omega⟩
  refine e_Ok.ps1 (x := (0, c)) (q := 1) 1 rfl ?_
  refine e_Ok.if1 rfl (fun h1 => ?_) (fun h1 => ?_)
  · replace h1 : (c : Int) ≥ 0 := h1
    refine e_Ok.ps3 (x := (0, 0)) (y := (0, 24)) (z := (1, 275)) (q := 9) 3 rfl ?_
    refine e_Ok.callV rfl (e_dq hd rfl) rfl rfl rfl rfl (c_336 hT hn (by omega) hs (by omega)) (fun r2 w3 h4 => ?_)
    obtain ⟨rfl, q5⟩ := h4
    refine e_Ok.nrm (q := 12) (st' := [(0, n)]) rfl rfl ?_
    refine e_Ok.run (t' := (15, [(2, (0, c)), (0, (1, 275)), (1, (0, c))], [], w3)) 3 rfl ?_
    have hL6 : ∀ (nn : Nat) (y2 : Int) (v1 : eW), e_Has mTy v1 ∧ ((-1 ≤ y2 ∧ y2 < n)) ∧ (0 ≤ y2 → Q y2) ∧ (∀ p, Q p → y2 < p → v1 329 (p + 40000) = n + 1) ∧ (∀ cc k, ¬ (cc = 329 ∧ ∃ p, Q p ∧ y2 < p ∧ k = p + 40000) → v1 cc k = w3 cc k) → y2 + 1 < nn → e_Ok 20 elay ecode eI (d + 1) 341 (15, [(0, (1, 275)), (2, (0, y2))], [], v1) (fun r w' => r = [] ∧ ((w = w' ∧ c < 0) ∨ (0 ≤ c ∧ ∃ w1, EM w w1 n 24 0 s ∧ e_Has mTy w' ∧ (∀ p, Q p → w' 329 (p + 40000) = n + 1) ∧ ∀ cc k, ¬ (cc = 329 ∧ ∃ p, Q p ∧ k = p + 40000) → w' cc k = w1 cc k))) := by
      intro nn
      induction nn with
      | zero => intro y2 v1 hj hm; obtain ⟨j8, j9, j10, j11, j12⟩ := hj; exfalso; omega
      | succ nn ih7 =>
        intro y2 v1 hj hm
        obtain ⟨j8, j9, j10, j11, j12⟩ := hj
        refine e_Ok.run (t' := (16, [(0, (1, 275)), (2, (0, y2))], [(0, y2)], v1)) 1 rfl ?_
        refine e_Ok.if1 rfl (fun h13 => ?_) (fun h13 => ?_)
        · replace h13 : (y2 : Int) < 0 := h13
          refine e_Ok.rets rfl rfl ?_
          exact ⟨rfl, Or.inr ⟨by omega, _, q5, j8, fun p g => j11 p g (by have := hQ.2.2.1 p g; omega), fun cc k g => j12 cc k (fun ⟨z1, p, z2, _, z4⟩ => g ⟨z1, p, z2, z4⟩)⟩⟩
        · replace h13 : (y2 : Int) ≥ 0 := Int.not_lt.mp (show ¬ ((y2 : Int) < 0) from h13)
          refine e_Ok.ps1 (x := (1, 275)) (q := 20) 1 rfl ?_
          refine e_Ok.getr (z := 329) rfl (el_o rfl) rfl (ef_o rfl) (e_Has.eq j8 rfl) ⟨by decide, by decide⟩ ?_
          refine e_Ok.ps2 (x := (0, y2)) (y := (0, 40000)) (q := 27) 2 rfl ?_
          refine e_Ok.add (z := y2 + 40000) rfl (Int.add_comm _ _) (by omega) ?_
          have h14 := (e_Has.get j8 (c := 329) (k := y2 + 40000) (lo := (-2147483648)) (hi := 2147483647) rfl (by decide))
          refine e_Ok.ald (z := v1 329 (y2 + 40000)) rfl (el_o rfl) rfl (by omega) rfl (e_bq h14 (by decide) (by decide)) ?_
          have hQy := j10 (by omega)
          have hb9 : v1 329 (y2 + 40000) = w 329 (y2 + 40000) := Eq.trans (j12 329 _ (fun q => by obtain ⟨-, p, -, q2, q3⟩ := q; omega)) (q5.1 329 _ (by omega))
          have hcq := hQ.2.2.2 y2 hQy
          rw [← hb9] at hcq
          refine e_Ok.run (t' := (32, [(3, (0, v1 329 (y2 + 40000))), (0, (1, 275)), (2, (0, y2))], [(0, y2), (1, 275)], v1)) 3 rfl ?_
          refine e_Ok.callV rfl (e_dq hd rfl) rfl rfl rfl rfl (c_337 j8 (n := n + 1) (Eq.trans (j12 275 78 (fun q => absurd q.1 (by decide))) q5.2.2.2.2) (by omega) (by omega)) (fun r15 w16 h17 => ?_)
          obtain ⟨rfl, q18⟩ := h17
          refine e_Ok.nrm (q := 35) (st' := []) rfl rfl ?_
          refine e_Ok.run (t' := (15, [(2, (0, v1 329 (y2 + 40000))), (3, (0, v1 329 (y2 + 40000))), (0, (1, 275))], [], w16)) 3 rfl ?_
          refine e_Ok.sub eAlk (e_sub_of rfl ?_) (ih7 (v1 329 (y2 + 40000)) w16 ⟨(show e_Has mTy w16 from e_Has.upr j8 q18 rfl (by omega)), (by rcases hcq with ⟨r1, -⟩ | ⟨r1, r2, -⟩; omega; have := hQ.2.2.1 _ r1; omega), (fun g => by rcases hcq with ⟨r1, -⟩ | ⟨r1, -, -⟩; omega; exact r1), (fun p g1 g2 => Decidable.byCases (p := p = y2) (fun e => by rw [e, ← q18]; exact e_up_eq _ _ _ _) (fun e => Eq.trans (show w16 329 (p + 40000) = v1 329 (p + 40000) from by rw [← q18]; exact e_up_ne _ _ (Or.inr (by omega))) (j11 p g1 (by rcases hcq with ⟨r1, r2⟩ | ⟨r1, r2, r3⟩; have := r2 p g1; omega; exact Decidable.byCases (p := p < y2) (fun e2 => by have := r3 p g1 e2; omega) (fun e2 => by omega))))), (fun cc k g => Decidable.byCases (p := cc = 329 ∧ k = y2 + 40000) (fun e => absurd ⟨e.1, y2, hQy, by rcases hcq with ⟨r1, -⟩ | ⟨-, r2, -⟩ <;> omega, e.2⟩ g) (fun e => Eq.trans (show w16 cc k = v1 cc k from by rw [← q18]; exact e_up_ne _ _ (by omega)) (j12 cc k (fun ⟨z1, p, z2, z3, z4⟩ => g ⟨z1, p, z2, by rcases hcq with ⟨r1, -⟩ | ⟨-, r2, -⟩ <;> omega, z4⟩))))⟩ (by omega))
          exact ⟨rfl, rfl, trivial⟩
    refine e_Ok.sub eAlk (e_sub_of rfl ?_) (hL6 (9902 + 1 : Int).toNat c w3 ⟨(EM.T hT q5 (by omega) (by omega) (by omega)), (by have h1 := hQ.1; have h2 := hQ.2.1; have h3 := hQ.2.2.1 c (h2 (by omega)); omega), hQ.2.1, (fun p g1 g2 => by have := hQ.2.2.1 p g1; omega), (fun cc k _ => rfl)⟩ (by omega))
    exact ⟨rfl, rfl, trivial⟩
  · replace h1 : (c : Int) < 0 := Int.not_le.mp (show ¬ ((c : Int) ≥ 0) from h1)
    refine e_Ok.rets rfl rfl ?_
    exact ⟨rfl, Or.inl ⟨rfl, by omega⟩⟩
end
end
-- part a2
section
noncomputable section
theorem no_a2_0 : ¬ mTq 275 78 := by unfold mTq; omega
theorem no_a2_1 : ¬ mTq 275 83 := by unfold mTq; omega
theorem no_a2_2 : ¬ mTq 275 88 := by unfold mTq; omega
theorem no_a2_3 : ¬ mTq 275 94 := by unfold mTq; omega
theorem no_a2_4 {n : Int} {m : Int} : ¬ mEx n m 275 81 := by unfold mEx; omega
set_option maxHeartbeats 4000000 in
theorem c_344 {d : Nat} (hd : 43 ≤ d) {w : eW} {N nt s e o F : Int} {P : Int → Prop} (hc : cSt w N) (hNr : 0 ≤ N ∧ N ≤ 4000) (h0 : w 275 88 = 0) (ho : w 275 83 = o) (hs : w 275 81 = s) (hb : 0 ≤ w 275 78 ∧ w 275 78 + 2 * (N - w 275 86) ≤ 8100 ∧ 0 ≤ w 275 94 ∧ w 275 94 + (N - w 275 86) ≤ 4050) (hw : wfE w N (w 275 78) (w 275 94) nt P s e) (he : e ≤ w 275 86) (hor : 0 ≤ o ∧ o ≤ 30) (hF : 0 ≤ F ∧ F ≤ 400) (hS : ∀ k, d = k + 1 → exC 346 o F k) : e_Ok 20 elay ecode eI d 344 (0, [(0, (1, 275))], [], w) (fun r w' => r = [] ∧ exQ w w' N nt P s (e + 1) (F + 1)) := by
  obtain ⟨d, rfl⟩ : ∃ e, d = e + 1 := ⟨d - 1, by omega⟩
  have hct := tkS.lin hc.2.2.2.1
  have hcf := e_Has.get hc.2.1 (c := 275) (k := 88) (lo := 0) (hi := 7) rfl (by decide)
  have hsb := hc.2.2.2.2
  rw [hs] at hsb
  have he0 := hw.2.2.2.2.2.1
  have hwH : Hid (w 275 88 = 0 → wfE w N (w 275 78) (w 275 94) nt P s e) := Hid.mk (fun _ => hw)
  refine e_Ok.run (t' := (1, [(0, (1, 275))], [(1, 275)], w)) 1 rfl ?_
  refine e_Ok.callV rfl (e_dq hd rfl) rfl rfl rfl rfl ((hS d rfl) w N nt s (e) P hc hNr (by omega) (by omega) hs (by omega) (hwH.out (by omega)) (by omega)) (fun r1 w2 h3 => ?_)
  obtain ⟨rfl, q4F, q4c, q4l, q4w⟩ := h3
  unfold cLn at q4l
  replace q4w : Hid (w2 275 88 = 0 → wfE w2 N (w2 275 78) (w2 275 94) nt P s (e + 1)) := Hid.mk (fun z => wfE.d (q4w z) (by omega))
  have t6t := tkS.lin q4c.2.2.2.1
  have t6f := e_Has.get q4c.2.1 (c := 275) (k := 88) (lo := 0) (hi := 7) rfl (by decide)
  refine e_Ok.nrm (q := 4) (st' := []) rfl rfl ?_
  have hL7 : ∀ (nn : Nat) (v1 : eW), e_fr (mEx (w 275 78) (w 275 94)) w v1 ∧ cSt v1 N ∧ cLn w v1 (F + 1) ∧ ((0 ≤ v1 275 86 ∧ v1 275 86 ≤ N)) ∧ Hid (v1 275 88 = 0 → wfE v1 N (v1 275 78) (v1 275 94) nt P s (e + 1)) → N - v1 275 86 < nn → e_Ok 20 elay ecode eI (d + 1) 344 (4, [(0, (1, 275))], [], v1) (fun r w' => r = [] ∧ exQ w w' N nt P s (e + 1) (F + 1)) := by
    intro nn
    induction nn with
    | zero => intro v1 hj hm; obtain ⟨j9, j10, j11, j12, j13⟩ := hj; exfalso; omega
    | succ nn ih8 =>
      intro v1 hj hm
      obtain ⟨j9, j10, j11, j12, j13⟩ := hj
      have xl := j11
      unfold cLn at xl
      have xt := tkS.lin j10.2.2.2.1
      have xf := e_Has.get j10.2.1 (c := 275) (k := 88) (lo := 0) (hi := 7) rfl (by decide)
      refine e_Ok.run (t' := (5, [(0, (1, 275))], [(1, 275)], v1)) 1 rfl ?_
      refine e_Ok.getf (z := v1 275 88) rfl (el_o rfl) rfl (ef_o rfl) rfl (by omega) ?_
      refine e_Ok.if1 rfl (fun h14 => ?_) (fun h14 => ?_)
      · replace h14 : (v1 275 88 : Int) ≠ 0 := h14
        refine e_Ok.rets rfl rfl ?_
        exact ⟨rfl, j9, j10, by unfold cLn; omega, (fun z => absurd z (by omega))⟩
      · replace h14 : (v1 275 88 : Int) = 0 := Classical.not_not.mp (show ¬ ((v1 275 88 : Int) ≠ 0) from h14)
        refine e_Ok.ps2 (x := (0, 42)) (y := (1, 275)) (q := 14) 2 rfl ?_
        refine e_Ok.callV rfl (e_dq hd rfl) rfl rfl rfl rfl (c_331 j10.1 (N := N) j10.2.2.2.1) (fun r15 w16 h17 => ?_)
        obtain ⟨z18, rfl, rfl, q19⟩ := h17
        obtain ⟨rfl, q19, q19b⟩ | ⟨rfl, q19n⟩ := q19
        · refine e_Ok.nrm (q := 17) (st' := [(0, 1)]) rfl rfl ?_
          refine e_Ok.if1 rfl (fun h20 => ?_) (fun h20 => ?_)
          · replace h20 : (1 : Int) ≠ 0 := h20
            refine e_Ok.ps1 (x := (1, 275)) (q := 39) 1 rfl ?_
            refine e_Ok.getf (z := v1 275 85) rfl (el_o rfl) rfl (ef_o rfl) rfl (by omega) ?_
            refine e_Ok.ps1 (x := (0, 42)) (q := 44) 1 rfl ?_
            refine e_Ok.if2 rfl (fun h21 => ?_) (fun h21 => ?_)
            · replace h21 : (v1 275 85 : Int) ≠ 42 := h21
              exfalso; omega
            · replace h21 : (v1 275 85 : Int) = 42 := Classical.not_not.mp (show ¬ ((v1 275 85 : Int) ≠ 42) from h21)
              refine e_Ok.run (t' := (70, [(1, (0, 12)), (0, (1, 275))], [(1, 275)], v1)) 4 rfl ?_
              refine e_Ok.callV rfl (e_dq hd rfl) rfl rfl rfl rfl (c_327 (e_dq hd rfl) j10.1 j10.2.1 j10.2.2.1 hNr (t := v1 275 87) rfl (by omega)) (fun r22 w23 h24 => ?_)
              have p26 := tkS.pos j10.2.2.2.1 (by omega)
              obtain ⟨rfl, q25, q25s, q25t⟩ := h24
              have u27 : w23 275 78 = v1 275 78 := q25 275 78 no_a2_0
              have u28 : w23 275 83 = v1 275 83 := q25 275 83 no_a2_1
              have u29 : w23 275 88 = v1 275 88 := q25 275 88 no_a2_2
              have u30 : w23 275 94 = v1 275 94 := q25 275 94 no_a2_3
              have f31 : e_fr (mEx (w 275 78) (w 275 94)) w w23 := e_fr.trans j9 (e_fr.mono q25 (fun c k g => by unfold mTq at g; unfold mEx; omega))
              have c32 := cSt.tk j10 q25 q25s
              have t33t := tkS.lin c32.2.2.2.1
              have t33f := e_Has.get c32.2.1 (c := 275) (k := 88) (lo := 0) (hi := 7) rfl (by decide)
              have wf34 : Hid (w23 275 88 = 0 → wfE w23 N (w23 275 78) (w23 275 94) nt P s (e + 1)) := Hid.mk (fun z => by rw [u27, u30]; exact wfE.pr (j13.out (by omega)) (prE.tk q25))
              refine e_Ok.nrm (q := 73) (st' := []) rfl rfl ?_
              refine e_Ok.ps1 (x := (1, 275)) (q := 74) 1 rfl ?_
              refine e_Ok.callV rfl (e_dq hd rfl) rfl rfl rfl rfl ((hS d rfl) w23 N nt s (e + 1) P c32 hNr (by omega) (by omega) (Eq.trans (f31 275 81 (by first | exact no_a2_4 | (unfold mEx; omega))) hs) (by omega) (wf34.out (by omega)) (by omega)) (fun r35 w36 h37 => ?_)
              obtain ⟨rfl, q38F, q38c, q38l, q38w⟩ := h37
              unfold cLn at q38l
              replace q38w : Hid (w36 275 88 = 0 → wfE w36 N (w36 275 78) (w36 275 94) nt P s (e + 2)) := Hid.mk (fun z => wfE.d (q38w z) (by omega))
              have f40 : e_fr (mEx (w 275 78) (w 275 94)) w w36 := e_fr.trans f31 (e_fr.mono q38F (fun c k g => by unfold mEx at g; unfold mEx; omega))
              have t41t := tkS.lin q38c.2.2.2.1
              have t41f := e_Has.get q38c.2.1 (c := 275) (k := 88) (lo := 0) (hi := 7) rfl (by decide)
              refine e_Ok.nrm (q := 77) (st' := []) rfl rfl ?_
              refine e_Ok.ps3 (x := (0, 0)) (y := (0, 12)) (z := (1, 275)) (q := 80) 3 rfl ?_
              refine e_Ok.callV rfl (e_dq hd rfl) rfl rfl rfl rfl (c_336 q38c.1 (n := w36 275 78) rfl (by omega) (s := s) (Eq.trans (f40 275 81 (by first | exact no_a2_4 | (unfold mEx; omega))) hs) (by omega)) (fun r42 w43 h44 => ?_)
              obtain ⟨rfl, q45⟩ := h44
              have u46 : w43 275 78 = w36 275 78 + 1 := q45.2.2.2.2
              have u47 : w43 275 83 = w36 275 83 := q45.1 275 83 (by omega)
              have u48 : w43 275 84 = w36 275 84 := q45.1 275 84 (by omega)
              have u49 : w43 275 85 = w36 275 85 := q45.1 275 85 (by omega)
              have u50 : w43 275 86 = w36 275 86 := q45.1 275 86 (by omega)
              have u51 : w43 275 87 = w36 275 87 := q45.1 275 87 (by omega)
              have u52 : w43 275 88 = w36 275 88 := q45.1 275 88 (by omega)
              have u53 : w43 275 94 = w36 275 94 := q45.1 275 94 (by omega)
              have c55 := cSt.em q38c q45 (by omega) (by omega) (by omega)
              have t56t := tkS.lin c55.2.2.2.1
              have t56f := e_Has.get c55.2.1 (c := 275) (k := 88) (lo := 0) (hi := 7) rfl (by decide)
              have wf57 : Hid (w43 275 88 = 0 → wfE w43 N (w43 275 78) (w43 275 94) nt P s (e + 1)) := Hid.mk (fun z => by rw [u46, u53]; exact wfE.d (wfE.em (q38w.out (by omega)) q45 (by decide) (by decide) (by decide) (by decide) (by unfold iOw; omega) (by rw [show nxD 12 (e + 2) = e + 1 from by unfold nxD; rw [if_neg (by omega), if_neg (by omega), if_pos (by omega)] <;> omega]; omega)) (by unfold nxD; rw [if_neg (by omega), if_neg (by omega), if_pos (by omega)] <;> omega))
              refine e_Ok.nrm (q := 83) (st' := [(0, w36 275 78)]) rfl rfl ?_
              refine e_Ok.run (t' := (4, [(1, (0, 12)), (0, (1, 275))], [], w43)) 2 rfl ?_
              refine e_Ok.sub eAlk (e_sub_of rfl ?_) (ih8  w43 ⟨(show e_fr (mEx (w 275 78) (w 275 94)) w w43 from e_fr.trans f40 (fun c k g => q45.1 c k (fun g2 => g (by unfold mEx; omega)))), c55, (by unfold cLn; omega), by omega, wf57⟩ (by omega))
              exact ⟨rfl, trivial⟩
          · replace h20 : (1 : Int) = 0 := Classical.not_not.mp (show ¬ ((1 : Int) ≠ 0) from h20)
            exfalso; omega
        · refine e_Ok.nrm (q := 17) (st' := [(0, 0)]) rfl rfl ?_
          refine e_Ok.if1 rfl (fun h58 => ?_) (fun h58 => ?_)
          · replace h58 : (0 : Int) ≠ 0 := h58
            exfalso; omega
          · replace h58 : (0 : Int) = 0 := Classical.not_not.mp (show ¬ ((0 : Int) ≠ 0) from h58)
            refine e_Ok.ps2 (x := (0, 47)) (y := (1, 275)) (q := 23) 2 rfl ?_
            refine e_Ok.callV rfl (e_dq hd rfl) rfl rfl rfl rfl (c_331 j10.1 (N := N) j10.2.2.2.1) (fun r59 w60 h61 => ?_)
            obtain ⟨z62, rfl, rfl, q63⟩ := h61
            obtain ⟨rfl, q63, q63b⟩ | ⟨rfl, q63n⟩ := q63
            · refine e_Ok.nrm (q := 26) (st' := [(0, 1)]) rfl rfl ?_
              refine e_Ok.if1 rfl (fun h64 => ?_) (fun h64 => ?_)
              · replace h64 : (1 : Int) ≠ 0 := h64
                refine e_Ok.ps1 (x := (1, 275)) (q := 39) 1 rfl ?_
                refine e_Ok.getf (z := v1 275 85) rfl (el_o rfl) rfl (ef_o rfl) rfl (by omega) ?_
                refine e_Ok.ps1 (x := (0, 42)) (q := 44) 1 rfl ?_
                refine e_Ok.if2 rfl (fun h65 => ?_) (fun h65 => ?_)
                · replace h65 : (v1 275 85 : Int) ≠ 42 := h65
                  refine e_Ok.ps1 (x := (1, 275)) (q := 53) 1 rfl ?_
                  refine e_Ok.getf (z := v1 275 85) rfl (el_o rfl) rfl (ef_o rfl) rfl (by omega) ?_
                  refine e_Ok.ps1 (x := (0, 47)) (q := 58) 1 rfl ?_
                  refine e_Ok.if2 rfl (fun h66 => ?_) (fun h66 => ?_)
                  · replace h66 : (v1 275 85 : Int) ≠ 47 := h66
                    exfalso; omega
                  · replace h66 : (v1 275 85 : Int) = 47 := Classical.not_not.mp (show ¬ ((v1 275 85 : Int) ≠ 47) from h66)
                    refine e_Ok.run (t' := (70, [(1, (0, 13)), (0, (1, 275))], [(1, 275)], v1)) 4 rfl ?_
                    refine e_Ok.callV rfl (e_dq hd rfl) rfl rfl rfl rfl (c_327 (e_dq hd rfl) j10.1 j10.2.1 j10.2.2.1 hNr (t := v1 275 87) rfl (by omega)) (fun r67 w68 h69 => ?_)
                    have p71 := tkS.pos j10.2.2.2.1 (by omega)
                    obtain ⟨rfl, q70, q70s, q70t⟩ := h69
                    have u72 : w68 275 78 = v1 275 78 := q70 275 78 no_a2_0
                    have u73 : w68 275 83 = v1 275 83 := q70 275 83 no_a2_1
                    have u74 : w68 275 88 = v1 275 88 := q70 275 88 no_a2_2
                    have u75 : w68 275 94 = v1 275 94 := q70 275 94 no_a2_3
                    have f76 : e_fr (mEx (w 275 78) (w 275 94)) w w68 := e_fr.trans j9 (e_fr.mono q70 (fun c k g => by unfold mTq at g; unfold mEx; omega))
                    have c77 := cSt.tk j10 q70 q70s
                    have t78t := tkS.lin c77.2.2.2.1
                    have t78f := e_Has.get c77.2.1 (c := 275) (k := 88) (lo := 0) (hi := 7) rfl (by decide)
                    have wf79 : Hid (w68 275 88 = 0 → wfE w68 N (w68 275 78) (w68 275 94) nt P s (e + 1)) := Hid.mk (fun z => by rw [u72, u75]; exact wfE.pr (j13.out (by omega)) (prE.tk q70))
                    refine e_Ok.nrm (q := 73) (st' := []) rfl rfl ?_
                    refine e_Ok.ps1 (x := (1, 275)) (q := 74) 1 rfl ?_
                    refine e_Ok.callV rfl (e_dq hd rfl) rfl rfl rfl rfl ((hS d rfl) w68 N nt s (e + 1) P c77 hNr (by omega) (by omega) (Eq.trans (f76 275 81 (by first | exact no_a2_4 | (unfold mEx; omega))) hs) (by omega) (wf79.out (by omega)) (by omega)) (fun r80 w81 h82 => ?_)
                    obtain ⟨rfl, q83F, q83c, q83l, q83w⟩ := h82
                    unfold cLn at q83l
                    replace q83w : Hid (w81 275 88 = 0 → wfE w81 N (w81 275 78) (w81 275 94) nt P s (e + 2)) := Hid.mk (fun z => wfE.d (q83w z) (by omega))
                    have f84 : e_fr (mEx (w 275 78) (w 275 94)) w w81 := e_fr.trans f76 (e_fr.mono q83F (fun c k g => by unfold mEx at g; unfold mEx; omega))
                    have t85t := tkS.lin q83c.2.2.2.1
                    have t85f := e_Has.get q83c.2.1 (c := 275) (k := 88) (lo := 0) (hi := 7) rfl (by decide)
                    refine e_Ok.nrm (q := 77) (st' := []) rfl rfl ?_
                    refine e_Ok.ps3 (x := (0, 0)) (y := (0, 13)) (z := (1, 275)) (q := 80) 3 rfl ?_
                    refine e_Ok.callV rfl (e_dq hd rfl) rfl rfl rfl rfl (c_336 q83c.1 (n := w81 275 78) rfl (by omega) (s := s) (Eq.trans (f84 275 81 (by first | exact no_a2_4 | (unfold mEx; omega))) hs) (by omega)) (fun r86 w87 h88 => ?_)
                    obtain ⟨rfl, q89⟩ := h88
                    have u90 : w87 275 78 = w81 275 78 + 1 := q89.2.2.2.2
                    have u91 : w87 275 83 = w81 275 83 := q89.1 275 83 (by omega)
                    have u92 : w87 275 84 = w81 275 84 := q89.1 275 84 (by omega)
                    have u93 : w87 275 85 = w81 275 85 := q89.1 275 85 (by omega)
                    have u94 : w87 275 86 = w81 275 86 := q89.1 275 86 (by omega)
                    have u95 : w87 275 87 = w81 275 87 := q89.1 275 87 (by omega)
                    have u101 : w87 275 88 = w81 275 88 := q89.1 275 88 (by omega)
                    have u103 : w87 275 94 = w81 275 94 := q89.1 275 94 (by omega)
                    have c105 := cSt.em q83c q89 (by omega) (by omega) (by omega)
                    have t106t := tkS.lin c105.2.2.2.1
                    have t106f := e_Has.get c105.2.1 (c := 275) (k := 88) (lo := 0) (hi := 7) rfl (by decide)
                    have wf107 : Hid (w87 275 88 = 0 → wfE w87 N (w87 275 78) (w87 275 94) nt P s (e + 1)) := Hid.mk (fun z => by rw [u90, u103]; exact wfE.d (wfE.em (q83w.out (by omega)) q89 (by decide) (by decide) (by decide) (by decide) (by unfold iOw; omega) (by rw [show nxD 13 (e + 2) = e + 1 from by unfold nxD; rw [if_neg (by omega), if_neg (by omega), if_pos (by omega)] <;> omega]; omega)) (by unfold nxD; rw [if_neg (by omega), if_neg (by omega), if_pos (by omega)] <;> omega))
                    refine e_Ok.nrm (q := 83) (st' := [(0, w81 275 78)]) rfl rfl ?_
                    refine e_Ok.run (t' := (4, [(1, (0, 13)), (0, (1, 275))], [], w87)) 2 rfl ?_
                    refine e_Ok.sub eAlk (e_sub_of rfl ?_) (ih8  w87 ⟨(show e_fr (mEx (w 275 78) (w 275 94)) w w87 from e_fr.trans f84 (fun c k g => q89.1 c k (fun g2 => g (by unfold mEx; omega)))), c105, (by unfold cLn; omega), by omega, wf107⟩ (by omega))
                    exact ⟨rfl, trivial⟩
                · replace h65 : (v1 275 85 : Int) = 42 := Classical.not_not.mp (show ¬ ((v1 275 85 : Int) ≠ 42) from h65)
                  exfalso; omega
              · replace h64 : (1 : Int) = 0 := Classical.not_not.mp (show ¬ ((1 : Int) ≠ 0) from h64)
                exfalso; omega
            · refine e_Ok.nrm (q := 26) (st' := [(0, 0)]) rfl rfl ?_
              refine e_Ok.if1 rfl (fun h108 => ?_) (fun h108 => ?_)
              · replace h108 : (0 : Int) ≠ 0 := h108
                exfalso; omega
              · replace h108 : (0 : Int) = 0 := Classical.not_not.mp (show ¬ ((0 : Int) ≠ 0) from h108)
                refine e_Ok.ps2 (x := (0, 37)) (y := (1, 275)) (q := 32) 2 rfl ?_
                refine e_Ok.callV rfl (e_dq hd rfl) rfl rfl rfl rfl (c_331 j10.1 (N := N) j10.2.2.2.1) (fun r109 w110 h111 => ?_)
                obtain ⟨z112, rfl, rfl, q113⟩ := h111
                obtain ⟨rfl, q113, q113b⟩ | ⟨rfl, q113n⟩ := q113
                · refine e_Ok.nrm (q := 35) (st' := [(0, 1)]) rfl rfl ?_
                  refine e_Ok.if1 rfl (fun h114 => ?_) (fun h114 => ?_)
                  · replace h114 : (1 : Int) = 0 := h114
                    exfalso; omega
                  · replace h114 : (1 : Int) ≠ 0 := (show ¬ ((1 : Int) = 0) from h114)
                    refine e_Ok.ps1 (x := (1, 275)) (q := 39) 1 rfl ?_
                    refine e_Ok.getf (z := v1 275 85) rfl (el_o rfl) rfl (ef_o rfl) rfl (by omega) ?_
                    refine e_Ok.ps1 (x := (0, 42)) (q := 44) 1 rfl ?_
                    refine e_Ok.if2 rfl (fun h115 => ?_) (fun h115 => ?_)
                    · replace h115 : (v1 275 85 : Int) ≠ 42 := h115
                      refine e_Ok.ps1 (x := (1, 275)) (q := 53) 1 rfl ?_
                      refine e_Ok.getf (z := v1 275 85) rfl (el_o rfl) rfl (ef_o rfl) rfl (by omega) ?_
                      refine e_Ok.ps1 (x := (0, 47)) (q := 58) 1 rfl ?_
                      refine e_Ok.if2 rfl (fun h116 => ?_) (fun h116 => ?_)
                      · replace h116 : (v1 275 85 : Int) ≠ 47 := h116
                        refine e_Ok.run (t' := (70, [(1, (0, 14)), (0, (1, 275))], [(1, 275)], v1)) 3 rfl ?_
                        refine e_Ok.callV rfl (e_dq hd rfl) rfl rfl rfl rfl (c_327 (e_dq hd rfl) j10.1 j10.2.1 j10.2.2.1 hNr (t := v1 275 87) rfl (by omega)) (fun r117 w118 h119 => ?_)
                        have p121 := tkS.pos j10.2.2.2.1 (by omega)
                        obtain ⟨rfl, q120, q120s, q120t⟩ := h119
                        have u122 : w118 275 78 = v1 275 78 := q120 275 78 no_a2_0
                        have u123 : w118 275 83 = v1 275 83 := q120 275 83 no_a2_1
                        have u124 : w118 275 88 = v1 275 88 := q120 275 88 no_a2_2
                        have u125 : w118 275 94 = v1 275 94 := q120 275 94 no_a2_3
                        have f126 : e_fr (mEx (w 275 78) (w 275 94)) w w118 := e_fr.trans j9 (e_fr.mono q120 (fun c k g => by unfold mTq at g; unfold mEx; omega))
                        have c127 := cSt.tk j10 q120 q120s
                        have t128t := tkS.lin c127.2.2.2.1
                        have t128f := e_Has.get c127.2.1 (c := 275) (k := 88) (lo := 0) (hi := 7) rfl (by decide)
                        have wf129 : Hid (w118 275 88 = 0 → wfE w118 N (w118 275 78) (w118 275 94) nt P s (e + 1)) := Hid.mk (fun z => by rw [u122, u125]; exact wfE.pr (j13.out (by omega)) (prE.tk q120))
                        refine e_Ok.nrm (q := 73) (st' := []) rfl rfl ?_
                        refine e_Ok.ps1 (x := (1, 275)) (q := 74) 1 rfl ?_
                        refine e_Ok.callV rfl (e_dq hd rfl) rfl rfl rfl rfl ((hS d rfl) w118 N nt s (e + 1) P c127 hNr (by omega) (by omega) (Eq.trans (f126 275 81 (by first | exact no_a2_4 | (unfold mEx; omega))) hs) (by omega) (wf129.out (by omega)) (by omega)) (fun r130 w131 h132 => ?_)
                        obtain ⟨rfl, q133F, q133c, q133l, q133w⟩ := h132
                        unfold cLn at q133l
                        replace q133w : Hid (w131 275 88 = 0 → wfE w131 N (w131 275 78) (w131 275 94) nt P s (e + 2)) := Hid.mk (fun z => wfE.d (q133w z) (by omega))
                        have f134 : e_fr (mEx (w 275 78) (w 275 94)) w w131 := e_fr.trans f126 (e_fr.mono q133F (fun c k g => by unfold mEx at g; unfold mEx; omega))
                        have t135t := tkS.lin q133c.2.2.2.1
                        have t135f := e_Has.get q133c.2.1 (c := 275) (k := 88) (lo := 0) (hi := 7) rfl (by decide)
                        refine e_Ok.nrm (q := 77) (st' := []) rfl rfl ?_
                        refine e_Ok.ps3 (x := (0, 0)) (y := (0, 14)) (z := (1, 275)) (q := 80) 3 rfl ?_
                        refine e_Ok.callV rfl (e_dq hd rfl) rfl rfl rfl rfl (c_336 q133c.1 (n := w131 275 78) rfl (by omega) (s := s) (Eq.trans (f134 275 81 (by first | exact no_a2_4 | (unfold mEx; omega))) hs) (by omega)) (fun r136 w137 h138 => ?_)
                        obtain ⟨rfl, q139⟩ := h138
                        have u140 : w137 275 78 = w131 275 78 + 1 := q139.2.2.2.2
                        have u141 : w137 275 83 = w131 275 83 := q139.1 275 83 (by omega)
                        have u142 : w137 275 84 = w131 275 84 := q139.1 275 84 (by omega)
                        have u143 : w137 275 85 = w131 275 85 := q139.1 275 85 (by omega)
                        have u144 : w137 275 86 = w131 275 86 := q139.1 275 86 (by omega)
                        have u145 : w137 275 87 = w131 275 87 := q139.1 275 87 (by omega)
                        have u146 : w137 275 88 = w131 275 88 := q139.1 275 88 (by omega)
                        have u147 : w137 275 94 = w131 275 94 := q139.1 275 94 (by omega)
                        have c149 := cSt.em q133c q139 (by omega) (by omega) (by omega)
                        have t150t := tkS.lin c149.2.2.2.1
                        have t150f := e_Has.get c149.2.1 (c := 275) (k := 88) (lo := 0) (hi := 7) rfl (by decide)
                        have wf151 : Hid (w137 275 88 = 0 → wfE w137 N (w137 275 78) (w137 275 94) nt P s (e + 1)) := Hid.mk (fun z => by rw [u140, u147]; exact wfE.d (wfE.em (q133w.out (by omega)) q139 (by decide) (by decide) (by decide) (by decide) (by unfold iOw; omega) (by rw [show nxD 14 (e + 2) = e + 1 from by unfold nxD; rw [if_neg (by omega), if_neg (by omega), if_pos (by omega)] <;> omega]; omega)) (by unfold nxD; rw [if_neg (by omega), if_neg (by omega), if_pos (by omega)] <;> omega))
                        refine e_Ok.nrm (q := 83) (st' := [(0, w131 275 78)]) rfl rfl ?_
                        refine e_Ok.run (t' := (4, [(1, (0, 14)), (0, (1, 275))], [], w137)) 2 rfl ?_
                        refine e_Ok.sub eAlk (e_sub_of rfl ?_) (ih8  w137 ⟨(show e_fr (mEx (w 275 78) (w 275 94)) w w137 from e_fr.trans f134 (fun c k g => q139.1 c k (fun g2 => g (by unfold mEx; omega)))), c149, (by unfold cLn; omega), by omega, wf151⟩ (by omega))
                        exact ⟨rfl, trivial⟩
                      · replace h116 : (v1 275 85 : Int) = 47 := Classical.not_not.mp (show ¬ ((v1 275 85 : Int) ≠ 47) from h116)
                        exfalso; omega
                    · replace h115 : (v1 275 85 : Int) = 42 := Classical.not_not.mp (show ¬ ((v1 275 85 : Int) ≠ 42) from h115)
                      exfalso; omega
                · refine e_Ok.nrm (q := 35) (st' := [(0, 0)]) rfl rfl ?_
                  refine e_Ok.if1 rfl (fun h152 => ?_) (fun h152 => ?_)
                  · replace h152 : (0 : Int) = 0 := h152
                    refine e_Ok.rets rfl rfl ?_
                    exact ⟨rfl, j9, j10, by unfold cLn; omega, j13.out⟩
                  · replace h152 : (0 : Int) ≠ 0 := (show ¬ ((0 : Int) = 0) from h152)
                    exfalso; omega
  refine e_Ok.sub eAlk (e_sub_of rfl ?_) (hL7 (4001 + 1 : Int).toNat  w2 ⟨(show e_fr (mEx (w 275 78) (w 275 94)) w w2 from e_fr.trans (e_fr.refl w) (e_fr.mono q4F (fun c k g => by unfold mEx at g; unfold mEx; omega))), q4c, (by unfold cLn; omega), by omega, q4w⟩ (by omega))
  exact ⟨rfl, trivial⟩
end
end
-- part a3
section
noncomputable section
theorem no_a3_0 : ¬ mTq 275 78 := by unfold mTq; omega
theorem no_a3_1 : ¬ mTq 275 83 := by unfold mTq; omega
theorem no_a3_2 : ¬ mTq 275 88 := by unfold mTq; omega
theorem no_a3_3 : ¬ mTq 275 94 := by unfold mTq; omega
theorem no_a3_4 {n : Int} {m : Int} : ¬ mEx n m 275 81 := by unfold mEx; omega
set_option maxHeartbeats 4000000 in
theorem c_343 {d : Nat} (hd : 43 ≤ d) {w : eW} {N nt s e o F : Int} {P : Int → Prop} (hc : cSt w N) (hNr : 0 ≤ N ∧ N ≤ 4000) (h0 : w 275 88 = 0) (ho : w 275 83 = o) (hs : w 275 81 = s) (hb : 0 ≤ w 275 78 ∧ w 275 78 + 2 * (N - w 275 86) ≤ 8100 ∧ 0 ≤ w 275 94 ∧ w 275 94 + (N - w 275 86) ≤ 4050) (hw : wfE w N (w 275 78) (w 275 94) nt P s e) (he : e ≤ w 275 86) (hor : 0 ≤ o ∧ o ≤ 30) (hF : 0 ≤ F ∧ F ≤ 400) (hS : ∀ k, d = k + 1 → exC 344 o F k) : e_Ok 20 elay ecode eI d 343 (0, [(0, (1, 275))], [], w) (fun r w' => r = [] ∧ exQ w w' N nt P s (e + 1) (F + 1)) := by
  obtain ⟨d, rfl⟩ : ∃ e, d = e + 1 := ⟨d - 1, by omega⟩
  have hct := tkS.lin hc.2.2.2.1
  have hcf := e_Has.get hc.2.1 (c := 275) (k := 88) (lo := 0) (hi := 7) rfl (by decide)
  have hsb := hc.2.2.2.2
  rw [hs] at hsb
  have he0 := hw.2.2.2.2.2.1
  have hwH : Hid (w 275 88 = 0 → wfE w N (w 275 78) (w 275 94) nt P s e) := Hid.mk (fun _ => hw)
  refine e_Ok.run (t' := (1, [(0, (1, 275))], [(1, 275)], w)) 1 rfl ?_
  refine e_Ok.callV rfl (e_dq hd rfl) rfl rfl rfl rfl ((hS d rfl) w N nt s (e) P hc hNr (by omega) (by omega) hs (by omega) (hwH.out (by omega)) (by omega)) (fun r1 w2 h3 => ?_)
  obtain ⟨rfl, q4F, q4c, q4l, q4w⟩ := h3
  unfold cLn at q4l
  replace q4w : Hid (w2 275 88 = 0 → wfE w2 N (w2 275 78) (w2 275 94) nt P s (e + 1)) := Hid.mk (fun z => wfE.d (q4w z) (by omega))
  have t6t := tkS.lin q4c.2.2.2.1
  have t6f := e_Has.get q4c.2.1 (c := 275) (k := 88) (lo := 0) (hi := 7) rfl (by decide)
  refine e_Ok.nrm (q := 4) (st' := []) rfl rfl ?_
  have hL7 : ∀ (nn : Nat) (v1 : eW), e_fr (mEx (w 275 78) (w 275 94)) w v1 ∧ cSt v1 N ∧ cLn w v1 (F + 1) ∧ ((0 ≤ v1 275 86 ∧ v1 275 86 ≤ N)) ∧ Hid (v1 275 88 = 0 → wfE v1 N (v1 275 78) (v1 275 94) nt P s (e + 1)) → N - v1 275 86 < nn → e_Ok 20 elay ecode eI (d + 1) 343 (4, [(0, (1, 275))], [], v1) (fun r w' => r = [] ∧ exQ w w' N nt P s (e + 1) (F + 1)) := by
    intro nn
    induction nn with
    | zero => intro v1 hj hm; obtain ⟨j9, j10, j11, j12, j13⟩ := hj; exfalso; omega
    | succ nn ih8 =>
      intro v1 hj hm
      obtain ⟨j9, j10, j11, j12, j13⟩ := hj
      have xl := j11
      unfold cLn at xl
      have xt := tkS.lin j10.2.2.2.1
      have xf := e_Has.get j10.2.1 (c := 275) (k := 88) (lo := 0) (hi := 7) rfl (by decide)
      refine e_Ok.run (t' := (5, [(0, (1, 275))], [(1, 275)], v1)) 1 rfl ?_
      refine e_Ok.getf (z := v1 275 88) rfl (el_o rfl) rfl (ef_o rfl) rfl (by omega) ?_
      refine e_Ok.if1 rfl (fun h14 => ?_) (fun h14 => ?_)
      · replace h14 : (v1 275 88 : Int) ≠ 0 := h14
        refine e_Ok.rets rfl rfl ?_
        exact ⟨rfl, j9, j10, by unfold cLn; omega, (fun z => absurd z (by omega))⟩
      · replace h14 : (v1 275 88 : Int) = 0 := Classical.not_not.mp (show ¬ ((v1 275 88 : Int) ≠ 0) from h14)
        refine e_Ok.ps2 (x := (0, 43)) (y := (1, 275)) (q := 14) 2 rfl ?_
        refine e_Ok.callV rfl (e_dq hd rfl) rfl rfl rfl rfl (c_331 j10.1 (N := N) j10.2.2.2.1) (fun r15 w16 h17 => ?_)
        obtain ⟨z18, rfl, rfl, q19⟩ := h17
        obtain ⟨rfl, q19, q19b⟩ | ⟨rfl, q19n⟩ := q19
        · refine e_Ok.nrm (q := 17) (st' := [(0, 1)]) rfl rfl ?_
          refine e_Ok.if1 rfl (fun h20 => ?_) (fun h20 => ?_)
          · replace h20 : (1 : Int) ≠ 0 := h20
            refine e_Ok.ps1 (x := (1, 275)) (q := 30) 1 rfl ?_
            refine e_Ok.getf (z := v1 275 85) rfl (el_o rfl) rfl (ef_o rfl) rfl (by omega) ?_
            refine e_Ok.ps1 (x := (0, 43)) (q := 35) 1 rfl ?_
            refine e_Ok.if2 rfl (fun h21 => ?_) (fun h21 => ?_)
            · replace h21 : (v1 275 85 : Int) ≠ 43 := h21
              exfalso; omega
            · replace h21 : (v1 275 85 : Int) = 43 := Classical.not_not.mp (show ¬ ((v1 275 85 : Int) ≠ 43) from h21)
              refine e_Ok.run (t' := (47, [(1, (0, 10)), (0, (1, 275))], [(1, 275)], v1)) 4 rfl ?_
              refine e_Ok.callV rfl (e_dq hd rfl) rfl rfl rfl rfl (c_327 (e_dq hd rfl) j10.1 j10.2.1 j10.2.2.1 hNr (t := v1 275 87) rfl (by omega)) (fun r22 w23 h24 => ?_)
              have p26 := tkS.pos j10.2.2.2.1 (by omega)
              obtain ⟨rfl, q25, q25s, q25t⟩ := h24
              have u27 : w23 275 78 = v1 275 78 := q25 275 78 no_a3_0
              have u28 : w23 275 83 = v1 275 83 := q25 275 83 no_a3_1
              have u29 : w23 275 88 = v1 275 88 := q25 275 88 no_a3_2
              have u30 : w23 275 94 = v1 275 94 := q25 275 94 no_a3_3
              have f31 : e_fr (mEx (w 275 78) (w 275 94)) w w23 := e_fr.trans j9 (e_fr.mono q25 (fun c k g => by unfold mTq at g; unfold mEx; omega))
              have c32 := cSt.tk j10 q25 q25s
              have t33t := tkS.lin c32.2.2.2.1
              have t33f := e_Has.get c32.2.1 (c := 275) (k := 88) (lo := 0) (hi := 7) rfl (by decide)
              have wf34 : Hid (w23 275 88 = 0 → wfE w23 N (w23 275 78) (w23 275 94) nt P s (e + 1)) := Hid.mk (fun z => by rw [u27, u30]; exact wfE.pr (j13.out (by omega)) (prE.tk q25))
              refine e_Ok.nrm (q := 50) (st' := []) rfl rfl ?_
              refine e_Ok.ps1 (x := (1, 275)) (q := 51) 1 rfl ?_
              refine e_Ok.callV rfl (e_dq hd rfl) rfl rfl rfl rfl ((hS d rfl) w23 N nt s (e + 1) P c32 hNr (by omega) (by omega) (Eq.trans (f31 275 81 (by first | exact no_a3_4 | (unfold mEx; omega))) hs) (by omega) (wf34.out (by omega)) (by omega)) (fun r35 w36 h37 => ?_)
              obtain ⟨rfl, q38F, q38c, q38l, q38w⟩ := h37
              unfold cLn at q38l
              replace q38w : Hid (w36 275 88 = 0 → wfE w36 N (w36 275 78) (w36 275 94) nt P s (e + 2)) := Hid.mk (fun z => wfE.d (q38w z) (by omega))
              have f40 : e_fr (mEx (w 275 78) (w 275 94)) w w36 := e_fr.trans f31 (e_fr.mono q38F (fun c k g => by unfold mEx at g; unfold mEx; omega))
              have t41t := tkS.lin q38c.2.2.2.1
              have t41f := e_Has.get q38c.2.1 (c := 275) (k := 88) (lo := 0) (hi := 7) rfl (by decide)
              refine e_Ok.nrm (q := 54) (st' := []) rfl rfl ?_
              refine e_Ok.ps3 (x := (0, 0)) (y := (0, 10)) (z := (1, 275)) (q := 57) 3 rfl ?_
              refine e_Ok.callV rfl (e_dq hd rfl) rfl rfl rfl rfl (c_336 q38c.1 (n := w36 275 78) rfl (by omega) (s := s) (Eq.trans (f40 275 81 (by first | exact no_a3_4 | (unfold mEx; omega))) hs) (by omega)) (fun r42 w43 h44 => ?_)
              obtain ⟨rfl, q45⟩ := h44
              have u46 : w43 275 78 = w36 275 78 + 1 := q45.2.2.2.2
              have u47 : w43 275 83 = w36 275 83 := q45.1 275 83 (by omega)
              have u48 : w43 275 84 = w36 275 84 := q45.1 275 84 (by omega)
              have u49 : w43 275 85 = w36 275 85 := q45.1 275 85 (by omega)
              have u50 : w43 275 86 = w36 275 86 := q45.1 275 86 (by omega)
              have u51 : w43 275 87 = w36 275 87 := q45.1 275 87 (by omega)
              have u52 : w43 275 88 = w36 275 88 := q45.1 275 88 (by omega)
              have u53 : w43 275 94 = w36 275 94 := q45.1 275 94 (by omega)
              have c55 := cSt.em q38c q45 (by omega) (by omega) (by omega)
              have t56t := tkS.lin c55.2.2.2.1
              have t56f := e_Has.get c55.2.1 (c := 275) (k := 88) (lo := 0) (hi := 7) rfl (by decide)
              have wf57 : Hid (w43 275 88 = 0 → wfE w43 N (w43 275 78) (w43 275 94) nt P s (e + 1)) := Hid.mk (fun z => by rw [u46, u53]; exact wfE.d (wfE.em (q38w.out (by omega)) q45 (by decide) (by decide) (by decide) (by decide) (by unfold iOw; omega) (by rw [show nxD 10 (e + 2) = e + 1 from by unfold nxD; rw [if_neg (by omega), if_neg (by omega), if_pos (by omega)] <;> omega]; omega)) (by unfold nxD; rw [if_neg (by omega), if_neg (by omega), if_pos (by omega)] <;> omega))
              refine e_Ok.nrm (q := 60) (st' := [(0, w36 275 78)]) rfl rfl ?_
              refine e_Ok.run (t' := (4, [(1, (0, 10)), (0, (1, 275))], [], w43)) 2 rfl ?_
              refine e_Ok.sub eAlk (e_sub_of rfl ?_) (ih8  w43 ⟨(show e_fr (mEx (w 275 78) (w 275 94)) w w43 from e_fr.trans f40 (fun c k g => q45.1 c k (fun g2 => g (by unfold mEx; omega)))), c55, (by unfold cLn; omega), by omega, wf57⟩ (by omega))
              exact ⟨rfl, trivial⟩
          · replace h20 : (1 : Int) = 0 := Classical.not_not.mp (show ¬ ((1 : Int) ≠ 0) from h20)
            exfalso; omega
        · refine e_Ok.nrm (q := 17) (st' := [(0, 0)]) rfl rfl ?_
          refine e_Ok.if1 rfl (fun h58 => ?_) (fun h58 => ?_)
          · replace h58 : (0 : Int) ≠ 0 := h58
            exfalso; omega
          · replace h58 : (0 : Int) = 0 := Classical.not_not.mp (show ¬ ((0 : Int) ≠ 0) from h58)
            refine e_Ok.ps2 (x := (0, 45)) (y := (1, 275)) (q := 23) 2 rfl ?_
            refine e_Ok.callV rfl (e_dq hd rfl) rfl rfl rfl rfl (c_331 j10.1 (N := N) j10.2.2.2.1) (fun r59 w60 h61 => ?_)
            obtain ⟨z62, rfl, rfl, q63⟩ := h61
            obtain ⟨rfl, q63, q63b⟩ | ⟨rfl, q63n⟩ := q63
            · refine e_Ok.nrm (q := 26) (st' := [(0, 1)]) rfl rfl ?_
              refine e_Ok.if1 rfl (fun h64 => ?_) (fun h64 => ?_)
              · replace h64 : (1 : Int) = 0 := h64
                exfalso; omega
              · replace h64 : (1 : Int) ≠ 0 := (show ¬ ((1 : Int) = 0) from h64)
                refine e_Ok.ps1 (x := (1, 275)) (q := 30) 1 rfl ?_
                refine e_Ok.getf (z := v1 275 85) rfl (el_o rfl) rfl (ef_o rfl) rfl (by omega) ?_
                refine e_Ok.ps1 (x := (0, 43)) (q := 35) 1 rfl ?_
                refine e_Ok.if2 rfl (fun h65 => ?_) (fun h65 => ?_)
                · replace h65 : (v1 275 85 : Int) ≠ 43 := h65
                  refine e_Ok.run (t' := (47, [(1, (0, 11)), (0, (1, 275))], [(1, 275)], v1)) 3 rfl ?_
                  refine e_Ok.callV rfl (e_dq hd rfl) rfl rfl rfl rfl (c_327 (e_dq hd rfl) j10.1 j10.2.1 j10.2.2.1 hNr (t := v1 275 87) rfl (by omega)) (fun r66 w67 h68 => ?_)
                  have p70 := tkS.pos j10.2.2.2.1 (by omega)
                  obtain ⟨rfl, q69, q69s, q69t⟩ := h68
                  have u71 : w67 275 78 = v1 275 78 := q69 275 78 no_a3_0
                  have u72 : w67 275 83 = v1 275 83 := q69 275 83 no_a3_1
                  have u73 : w67 275 88 = v1 275 88 := q69 275 88 no_a3_2
                  have u74 : w67 275 94 = v1 275 94 := q69 275 94 no_a3_3
                  have f75 : e_fr (mEx (w 275 78) (w 275 94)) w w67 := e_fr.trans j9 (e_fr.mono q69 (fun c k g => by unfold mTq at g; unfold mEx; omega))
                  have c76 := cSt.tk j10 q69 q69s
                  have t77t := tkS.lin c76.2.2.2.1
                  have t77f := e_Has.get c76.2.1 (c := 275) (k := 88) (lo := 0) (hi := 7) rfl (by decide)
                  have wf78 : Hid (w67 275 88 = 0 → wfE w67 N (w67 275 78) (w67 275 94) nt P s (e + 1)) := Hid.mk (fun z => by rw [u71, u74]; exact wfE.pr (j13.out (by omega)) (prE.tk q69))
                  refine e_Ok.nrm (q := 50) (st' := []) rfl rfl ?_
                  refine e_Ok.ps1 (x := (1, 275)) (q := 51) 1 rfl ?_
                  refine e_Ok.callV rfl (e_dq hd rfl) rfl rfl rfl rfl ((hS d rfl) w67 N nt s (e + 1) P c76 hNr (by omega) (by omega) (Eq.trans (f75 275 81 (by first | exact no_a3_4 | (unfold mEx; omega))) hs) (by omega) (wf78.out (by omega)) (by omega)) (fun r79 w80 h81 => ?_)
                  obtain ⟨rfl, q82F, q82c, q82l, q82w⟩ := h81
                  unfold cLn at q82l
                  replace q82w : Hid (w80 275 88 = 0 → wfE w80 N (w80 275 78) (w80 275 94) nt P s (e + 2)) := Hid.mk (fun z => wfE.d (q82w z) (by omega))
                  have f83 : e_fr (mEx (w 275 78) (w 275 94)) w w80 := e_fr.trans f75 (e_fr.mono q82F (fun c k g => by unfold mEx at g; unfold mEx; omega))
                  have t84t := tkS.lin q82c.2.2.2.1
                  have t84f := e_Has.get q82c.2.1 (c := 275) (k := 88) (lo := 0) (hi := 7) rfl (by decide)
                  refine e_Ok.nrm (q := 54) (st' := []) rfl rfl ?_
                  refine e_Ok.ps3 (x := (0, 0)) (y := (0, 11)) (z := (1, 275)) (q := 57) 3 rfl ?_
                  refine e_Ok.callV rfl (e_dq hd rfl) rfl rfl rfl rfl (c_336 q82c.1 (n := w80 275 78) rfl (by omega) (s := s) (Eq.trans (f83 275 81 (by first | exact no_a3_4 | (unfold mEx; omega))) hs) (by omega)) (fun r85 w86 h87 => ?_)
                  obtain ⟨rfl, q88⟩ := h87
                  have u89 : w86 275 78 = w80 275 78 + 1 := q88.2.2.2.2
                  have u90 : w86 275 83 = w80 275 83 := q88.1 275 83 (by omega)
                  have u91 : w86 275 84 = w80 275 84 := q88.1 275 84 (by omega)
                  have u92 : w86 275 85 = w80 275 85 := q88.1 275 85 (by omega)
                  have u93 : w86 275 86 = w80 275 86 := q88.1 275 86 (by omega)
                  have u94 : w86 275 87 = w80 275 87 := q88.1 275 87 (by omega)
                  have u95 : w86 275 88 = w80 275 88 := q88.1 275 88 (by omega)
                  have u101 : w86 275 94 = w80 275 94 := q88.1 275 94 (by omega)
                  have c104 := cSt.em q82c q88 (by omega) (by omega) (by omega)
                  have t105t := tkS.lin c104.2.2.2.1
                  have t105f := e_Has.get c104.2.1 (c := 275) (k := 88) (lo := 0) (hi := 7) rfl (by decide)
                  have wf106 : Hid (w86 275 88 = 0 → wfE w86 N (w86 275 78) (w86 275 94) nt P s (e + 1)) := Hid.mk (fun z => by rw [u89, u101]; exact wfE.d (wfE.em (q82w.out (by omega)) q88 (by decide) (by decide) (by decide) (by decide) (by unfold iOw; omega) (by rw [show nxD 11 (e + 2) = e + 1 from by unfold nxD; rw [if_neg (by omega), if_neg (by omega), if_pos (by omega)] <;> omega]; omega)) (by unfold nxD; rw [if_neg (by omega), if_neg (by omega), if_pos (by omega)] <;> omega))
                  refine e_Ok.nrm (q := 60) (st' := [(0, w80 275 78)]) rfl rfl ?_
                  refine e_Ok.run (t' := (4, [(1, (0, 11)), (0, (1, 275))], [], w86)) 2 rfl ?_
                  refine e_Ok.sub eAlk (e_sub_of rfl ?_) (ih8  w86 ⟨(show e_fr (mEx (w 275 78) (w 275 94)) w w86 from e_fr.trans f83 (fun c k g => q88.1 c k (fun g2 => g (by unfold mEx; omega)))), c104, (by unfold cLn; omega), by omega, wf106⟩ (by omega))
                  exact ⟨rfl, trivial⟩
                · replace h65 : (v1 275 85 : Int) = 43 := Classical.not_not.mp (show ¬ ((v1 275 85 : Int) ≠ 43) from h65)
                  exfalso; omega
            · refine e_Ok.nrm (q := 26) (st' := [(0, 0)]) rfl rfl ?_
              refine e_Ok.if1 rfl (fun h107 => ?_) (fun h107 => ?_)
              · replace h107 : (0 : Int) = 0 := h107
                refine e_Ok.rets rfl rfl ?_
                exact ⟨rfl, j9, j10, by unfold cLn; omega, j13.out⟩
              · replace h107 : (0 : Int) ≠ 0 := (show ¬ ((0 : Int) = 0) from h107)
                exfalso; omega
  refine e_Ok.sub eAlk (e_sub_of rfl ?_) (hL7 (4001 + 1 : Int).toNat  w2 ⟨(show e_fr (mEx (w 275 78) (w 275 94)) w w2 from e_fr.trans (e_fr.refl w) (e_fr.mono q4F (fun c k g => by unfold mEx at g; unfold mEx; omega))), q4c, (by unfold cLn; omega), by omega, q4w⟩ (by omega))
  exact ⟨rfl, trivial⟩
end
end
