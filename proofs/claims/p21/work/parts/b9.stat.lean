noncomputable section
/-! the compiler's methods for statements: what they keep -/
def mStm (n nt nw m c k : Int) : Prop := ((c = 328 ∨ c = 329 ∨ c = 330) ∧ n + 40000 ≤ k) ∨ ((331 ≤ c ∧ c ≤ 334) ∧ nt + 3600 ≤ k) ∨ ((335 ≤ c ∧ c ≤ 336) ∧ nw + 3600 ≤ k) ∨ ((341 ≤ c ∧ c ≤ 344) ∧ m ≤ k) ∨ (c = 275 ∧ ((78 ≤ k ∧ k ≤ 89) ∨ k = 94))
def stL (w w' : eW) (z F : Int) : Prop := w 275 86 ≤ w' 275 86 ∧ w 275 78 ≤ w' 275 78 ∧ (w' 275 88 = 0 → w' 275 78 ≤ w 275 78 + 2 * (w' 275 86 - w 275 86) ∧ w' 275 83 = w 275 83 ∧ w 275 86 + z ≤ w' 275 86 ∧ 5 * (w' 275 79 - w 275 79) ≤ w' 275 86 - w 275 86 ∧ 5 * (w' 275 80 - w 275 80) ≤ w' 275 86 - w 275 86) ∧ w' 275 78 ≤ w 275 78 + 2 * (w' 275 86 - w 275 86) + F ∧ w 275 94 ≤ w' 275 94 ∧ w' 275 94 ≤ w 275 94 + (w' 275 86 - w 275 86) ∧ w 275 83 - 1 ≤ w' 275 83 ∧ w' 275 83 ≤ w 275 83 ∧ w' 275 81 = w 275 81 ∧ w' 275 82 = w 275 82 ∧ w 275 79 ≤ w' 275 79 ∧ w 275 80 ≤ w' 275 80
def stB (w : eW) (N o : Int) : Prop := (0 ≤ w 275 78 ∧ w 275 78 + 2 * (N - w 275 86) ≤ 8100) ∧ (0 ≤ w 275 94 ∧ w 275 94 + (N - w 275 86) ≤ 4050) ∧ (0 ≤ w 275 79 ∧ 5 * w 275 79 ≤ w 275 86 + 5 * o) ∧ 0 ≤ w 275 80 ∧ 5 * w 275 80 ≤ w 275 86 + 5 * o
def stQ (w w' : eW) (N : Int) (P OW : Int → Prop) (O z F : Int) : Prop := e_fr (mStm (w 275 78) (w 275 79) (w 275 80) (w 275 94)) w w' ∧ cSt w' N ∧ stL w w' z F ∧ (w' 275 88 = 0 → GB w' N (w' 275 78) (w' 275 94) (w' 275 79) (w' 275 80) P (w' 275 81) OW O)
/-- a method for statements, at o brackets and parts -/
def stC (M : Nat) (z o F : Int) (d : Nat) : Prop := ∀ (w : eW) (N O : Int) (P OW : Int → Prop), cSt w N → (0 ≤ N ∧ N ≤ 4000) → w 275 88 = 0 → w 275 83 = o → (w 275 82 = -1 ∨ OW (w 275 82)) → stB w N o → O ≤ o → GB w N (w 275 78) (w 275 94) (w 275 79) (w 275 80) P (w 275 81) OW O →
  e_Ok 20 elay ecode eI d M (0, [(0, (1, 275))], [], w) (fun r w' => r = [] ∧ stQ w w' N P OW O z F)
theorem mTq_fld {k : Int} (h : k < 84 ∨ 87 < k) : ¬ mTq 275 k := by unfold mTq; omega
theorem mTq_not {c k : Int} (h : c ≠ 275) : ¬ mTq c k := by unfold mTq; omega
theorem mTq_St {n nt nw m c k : Int} (h : mTq c k) : mStm n nt nw m c k := by unfold mTq at h; unfold mStm; omega
theorem mRf_fld {k : Int} (h : k < 88 ∨ 89 < k) : ¬ mRf 275 k := by unfold mRf; omega
theorem mRf_St {n nt nw m c k : Int} (h : mRf c k) : mStm n nt nw m c k := by unfold mRf at h; unfold mStm; omega
theorem mU_St {n nt nw m c k : Int} (h : c = 275 ∧ k = 83) : mStm n nt nw m c k := by unfold mStm; omega
theorem mNm_fld {k : Int} (h : k ≠ 94) : ¬ mNm 275 k := by unfold mNm; omega
theorem mEx_fld {n m k : Int} (h : 78 < k ∧ k < 83) : ¬ mEx n m 275 k := by unfold mEx; omega
theorem mEx_St {n nt nw m n' m' c k : Int} (h1 : n ≤ n') (h2 : m ≤ m') (h : mEx n' m' c k) : mStm n nt nw m c k := by unfold mEx at h; unfold mStm; omega
theorem mEx_lt {n m c k : Int} (hc : c < 331 ∧ c ≠ 275) (h : k < n + 40000) : ¬ mEx n m c k := by unfold mEx; omega
theorem mEx_far {n m c k : Int} (hc : 331 ≤ c ∧ c ≤ 340) : ¬ mEx n m c k := by unfold mEx; omega
theorem mEx_nm {n m c k : Int} (hc : 341 ≤ c ∧ c ≤ 344) (h : k < m) : ¬ mEx n m c k := by unfold mEx; omega
theorem mSt_St {n nt nw m n' nt' nw' m' c k : Int} (h1 : n ≤ n') (h2 : nt ≤ nt') (h3 : nw ≤ nw') (h4 : m ≤ m') (h : mStm n' nt' nw' m' c k) : mStm n nt nw m c k := by unfold mStm at h ⊢; omega
theorem EM.fld {w w' : eW} {n o x s k : Int} (h : EM w w' n o x s) (hk : k ≠ 78) : w' 275 k = w 275 k := h.1 275 k (by omega)
theorem EM.lt {w w' : eW} {n o x s c k : Int} (h : EM w w' n o x s) (hc : c ≠ 275) (hk : k < n + 40000) : w' c k = w c k := h.1 c k (by omega)
theorem EM.far {w w' : eW} {n o x s c k : Int} (h : EM w w' n o x s) (hc : 331 ≤ c) : w' c k = w c k := h.1 c k (by omega)
theorem EM.st {w w' : eW} {n n0 nt nw m o x s : Int} (h : EM w w' n o x s) (hn : n0 ≤ n) : e_fr (mStm n0 nt nw m) w w' := fun c k g => h.1 c k (fun y => g (by unfold mStm; omega))
theorem cSt.wr {w w' : eW} {N c k z : Int} (h : cSt w N) (hw : e_up w c k z = w') (hm : mTy c k = (-2147483648, 2147483647) ∨ mTy c k = (1, 0)) (hz : -2147483648 ≤ z ∧ z ≤ 2147483647) (hh : hTy c k = (1, 0)) (h5 : c = 275 → (k ≠ 9 ∧ ¬ (84 ≤ k ∧ k ≤ 87)) ∧ (k = 81 → -1 ≤ z ∧ z ≤ 2700)) : cSt w' N := by
  obtain ⟨h1, h2, h3, h4, h6⟩ := h
  have e : ∀ j, ¬ (c = 275 ∧ k = j) → w' 275 j = w 275 j := fun j q => by rw [← hw]; exact e_up_ne _ _ (by omega)
  have hT : e_Has mTy w' := by
    rcases hm with hm | hm
    · exact h1.upr hw hm hz
    · exact h1.ups hw hm
  refine ⟨hT, h2.ups hw hh, by rw [e 9 (fun q => (h5 q.1).1.1 q.2)]; exact h3, ?_, ?_⟩
  · unfold tkS
    rw [e 86 (fun q => (h5 q.1).1.2 (by omega)), e 87 (fun q => (h5 q.1).1.2 (by omega)), e 84 (fun q => (h5 q.1).1.2 (by omega)), e 85 (fun q => (h5 q.1).1.2 (by omega))]
    exact h4
  · by_cases q : c = 275 ∧ k = 81
    · rw [← hw, q.1, q.2, e_up_eq]
      exact (h5 q.1).2 q.2
    · rw [e 81 q]
      exact h6
theorem GB.re {w : eW} {N n mm nt nw s o n' mm' nt' nw' s' : Int} {P OW : Int → Prop} (h : GB w N n mm nt nw P s OW o) (e1 : n = n') (e2 : mm = mm') (e3 : nt = nt') (e4 : nw = nw') (e5 : s = s') : GB w N n' mm' nt' nw' P s' OW o := by
  subst e1 e2 e3 e4 e5
  exact h
theorem GA.re {w : eW} {N n mm nt nw s o n' mm' nt' nw' s' : Int} {P OW : Int → Prop} (h : GA w N n mm nt nw P s OW o) (e1 : n = n') (e2 : mm = mm') (e3 : nt = nt') (e4 : nw = nw') (e5 : s = s') : GA w N n' mm' nt' nw' P s' OW o := by
  subst e1 e2 e3 e4 e5
  exact h
theorem GZ.re {w : eW} {N n mm nt nw s o n' mm' nt' nw' s' : Int} {P OW : Int → Prop} (h : GZ w N n mm nt nw P s OW o) (e1 : n = n') (e2 : mm = mm') (e3 : nt = nt') (e4 : nw = nw') (e5 : s = s') : GZ w N n' mm' nt' nw' P s' OW o := by
  subst e1 e2 e3 e4 e5
  exact h
theorem GS.re {w : eW} {N n mm nt nw s o d n' mm' nt' nw' s' d' : Int} {P OW : Int → Prop} (h : GS w N n mm nt nw P s OW o d) (e1 : n = n') (e2 : mm = mm') (e3 : nt = nt') (e4 : nw = nw') (e5 : s = s') (e6 : d = d') : GS w N n' mm' nt' nw' P s' OW o d' := by
  subst e1 e2 e3 e4 e5 e6
  exact h
theorem GB.oo {w : eW} {N n mm nt nw s o o' : Int} {P OW : Int → Prop} (h : GB w N n mm nt nw P s OW o) (g : piR w s ≤ o') : GB w N n mm nt nw P s OW o' := ⟨⟨h.1.1, h.1.2.1, h.1.2.2.1, h.1.2.2.2.1, h.1.2.2.2.2.1, h.1.2.2.2.2.2.1, ⟨h.1.2.2.2.2.2.2.1.1, g⟩, h.1.2.2.2.2.2.2.2⟩, h.2⟩
theorem GB.ol {w : eW} {N n mm nt nw s o o' : Int} {P OW : Int → Prop} (h : GB w N n mm nt nw P s OW o) (g : o ≤ o') : GB w N n mm nt nw P s OW o' := h.oo (Int.le_trans h.1.2.2.2.2.2.2.1.2 g)
/-- what was open around a statement stays -/
theorem GB.ow {w w' : eW} {N n mm nt nw s o n' m' : Int} {P OW : Int → Prop} (h : GB w N n mm nt nw P s OW o) (hf : e_fr (mStm n' nt nw m') w w') : (∀ v, OW v → anc w' s (w' 335 (v + 3600))) ∧ piR w' s ≤ o := by
  have hti := h.1.ti
  have hs := h.1.2.2.2.2.2.1.1
  have et : ∀ t, 0 ≤ t → t < nt → w' 331 (t + 3600) = w 331 (t + 3600) := fun t _ z => hf 331 _ (by unfold mStm; omega)
  refine ⟨fun v z => ?_, by rw [piR_eq hti et hs.1 hs.2]; exact h.1.2.2.2.2.2.2.1.2⟩
  have hv := h.1.2.2.2.2.2.2.2.1 v z
  rw [hf 335 _ (by unfold mStm; omega)]
  exact (anc.eq hti et hs.1 hs.2).2 ((h.1.2.2.2.1 v hv.1 hv.2).2.1 z)
end
