noncomputable section
/-! names: words of a text that are the same -/
section SPN
variable {T : Int → Int} {N p q i x : Int}
def nmB (b : Int) : Prop := (97 ≤ b ∧ b ≤ 122) ∨ (65 ≤ b ∧ b ≤ 90) ∨ (48 ≤ b ∧ b ≤ 57)
def wl (T : Int → Int) (N p : Int) : Int := wdF T N p - p
theorem nmB_in (h : nmB (byT T N i)) : i < N ∧ nmB (T i % 256) := by
  unfold byT at h
  by_cases g : i < N
  · rw [if_pos g] at h; exact ⟨g, h⟩
  · rw [if_neg g] at h; unfold nmB at h; omega
theorem wl_no (h : ¬ nmB (byT T N p)) : wl T N p = 0 := by
  unfold wl
  rw [wdF_end]
  · omega
  · by_cases g : N ≤ p
    · exact Or.inl g
    · refine Or.inr (fun q => h ?_)
      unfold byT
      rw [if_pos (by omega)]
      exact q
theorem wl_yes (h : nmB (byT T N p)) : wl T N p = 1 + wl T N (p + 1) := by
  obtain ⟨h1, h2⟩ := nmB_in h
  unfold wl
  rw [wdF_go h1 h2]
  omega
theorem wl_nn (n : Nat) : ∀ p, (N - p).toNat = n → 0 ≤ wl T N p := by
  induction n with
  | zero =>
    intro p hp
    by_cases h : nmB (byT T N p)
    · have := (nmB_in h).1; omega
    · rw [wl_no h]; exact Int.le_refl 0
  | succ n ih =>
    intro p hp
    by_cases h : nmB (byT T N p)
    · have := ih (p + 1) (by omega)
      rw [wl_yes h]
      omega
    · rw [wl_no h]; exact Int.le_refl 0
theorem wl_0 (p : Int) : 0 ≤ wl T N p := wl_nn _ p rfl
/-- alike so far, both within their words -/
def snJ (T : Int → Int) (N p q i : Int) : Prop := ∀ j, 0 ≤ j → j < i → nmB (byT T N (p + j)) ∧ byT T N (p + j) = byT T N (q + j)
def snm (T : Int → Int) (N p q : Int) : Prop := wl T N p = wl T N q ∧ ∀ j, 0 ≤ j → j < wl T N p → byT T N (p + j) = byT T N (q + j)
theorem snJ.z : snJ T N p q 0 := fun j h1 h2 => by omega
theorem snJ.up (h : snJ T N p q i) (h1 : nmB (byT T N (p + i))) (h2 : byT T N (p + i) = byT T N (q + i)) : snJ T N p q (i + 1) := fun j g1 g2 => by
  by_cases e : j = i
  · rw [e]; exact ⟨h1, h2⟩
  · exact h j g1 (by omega)
theorem wl_at (n : Nat) : ∀ (p : Int), (∀ j, 0 ≤ j → j < (n : Int) → nmB (byT T N (p + j))) → wl T N p = n + wl T N (p + n) := by
  induction n with
  | zero => intro p _; rw [show p + ((0 : Nat) : Int) = p by omega]; omega
  | succ n ih =>
    intro p h
    have h0 := h 0 (by omega) (by omega)
    rw [show p + 0 = p by omega] at h0
    rw [wl_yes h0, ih (p + 1) (fun j g1 g2 => by
      have := h (j + 1) (by omega) (by omega)
      rw [show p + (j + 1) = p + 1 + j by omega] at this
      exact this)]
    rw [show p + 1 + (n : Int) = p + ((n + 1 : Nat) : Int) by omega]
    omega
theorem snJ.lens (h : snJ T N p q i) (hi : 0 ≤ i) : wl T N p = i + wl T N (p + i) ∧ wl T N q = i + wl T N (q + i) := by
  have a := wl_at (T := T) (N := N) i.toNat p (fun j g1 g2 => (h j g1 (by omega)).1)
  have b := wl_at (T := T) (N := N) i.toNat q (fun j g1 g2 => by
    obtain ⟨h1, h2⟩ := h j g1 (by omega)
    rw [← h2]
    exact h1)
  rw [show ((i.toNat : Nat) : Int) = i by omega] at a b
  exact ⟨a, b⟩
theorem snJ.yes (h : snJ T N p q i) (hi : 0 ≤ i) (h1 : ¬ nmB (byT T N (p + i))) (h2 : ¬ nmB (byT T N (q + i))) : snm T N p q := by
  obtain ⟨a, b⟩ := h.lens hi
  rw [wl_no h1] at a
  rw [wl_no h2] at b
  exact ⟨by omega, fun j g1 g2 => (h j g1 (by omega)).2⟩
theorem snJ.no1 (h : snJ T N p q i) (hi : 0 ≤ i) (h1 : nmB (byT T N (p + i))) (h2 : byT T N (p + i) ≠ byT T N (q + i)) : ¬ snm T N p q := fun s => by
  obtain ⟨a, b⟩ := h.lens hi
  rw [wl_yes h1] at a
  have c := wl_0 (T := T) (N := N) (p + i + 1)
  exact h2 (s.2 i hi (by omega))
theorem snJ.no2 (h : snJ T N p q i) (hi : 0 ≤ i) (h1 : ¬ nmB (byT T N (p + i))) (h2 : nmB (byT T N (q + i))) : ¬ snm T N p q := fun s => by
  obtain ⟨a, b⟩ := h.lens hi
  rw [wl_no h1] at a
  rw [wl_yes h2] at b
  have c := wl_0 (T := T) (N := N) (q + i + 1)
  have e := s.1
  omega
theorem snJ.no3 (h : snJ T N p q i) (hi : 24 ≤ i) (hw : wl T N p ≤ 24) (h1 : nmB (byT T N (p + i))) : False := by
  obtain ⟨a, b⟩ := h.lens (by omega)
  rw [wl_yes h1] at a
  have c := wl_0 (T := T) (N := N) (p + i + 1)
  omega
theorem snm.symm (h : snm T N p q) : snm T N q p := ⟨h.1.symm, fun j g1 g2 => (h.2 j g1 (by rw [h.1]; exact g2)).symm⟩
/-- what a search among names finds -/
def fndQ (T : Int → Int) (N : Int) (f : Int → Int) (n x z : Int) : Prop := (z = -1 ∧ ∀ j, 0 ≤ j → j < n → ¬ snm T N (f j) x) ∨ (0 ≤ z ∧ z < n ∧ snm T N (f z) x ∧ ∀ j, 0 ≤ j → j < z → ¬ snm T N (f j) x)
def nmOk (T : Int → Int) (N : Int) (f : Int → Int) (n : Int) : Prop := ∀ j, 0 ≤ j → j < n → 0 ≤ f j ∧ f j ≤ 4000 ∧ wl T N (f j) ≤ 24
end SPN
/-- what complain does -/
def cplQ (w w' : eW) (n x : Int) : Prop := ((w 1 9 = 0 ∨ x < w 1 10 ∨ (x = w 1 10 ∧ n ≤ w 1 9)) ∧ e_up (e_up w 1 9 n) 1 10 x = w') ∨ (w 1 9 ≠ 0 ∧ (w 1 10 < x ∨ (x = w 1 10 ∧ w 1 9 < n)) ∧ w = w')
end
