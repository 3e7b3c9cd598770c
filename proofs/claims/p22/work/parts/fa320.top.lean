noncomputable section
/-! the text as a whole: what is kept while names are told -/
def all0 (v : eW) : Prop := ∀ i, 0 ≤ i → i < v 275 94 → v 341 i = 0
theorem all0.E {v v' : eW} (h : all0 v) (e : nmE v v') : all0 v' := by
  obtain ⟨e1, -, -, e4⟩ := e
  unfold all0
  rw [e1, e4]
  exact h
theorem TK.nm {N : Int} {w v w' v' : eW} (h : TK N w v w' v') : nmE v v' := nmE.of h.2.2.2.2.2 (fun i => by unfold mTq; omega) (by unfold mTq; omega)
/-- how many routines were told -/
def cn1 (v : eW) : Int := cntK v 1 (v 275 94)
theorem cn1.E {v v' : eW} (e : nmE v v') : cn1 v' = cn1 v := by
  have c := e.c
  obtain ⟨-, -, -, e4⟩ := e
  unfold cn1
  rw [c, e4]
theorem cn1.A {v v' : eW} {a e : Int} (A : nmA v v' 1 a e) (h0 : 0 ≤ v 275 94) : cn1 v' = cn1 v + 1 := by
  obtain ⟨A1, ⟨A2, -, -⟩, A5⟩ := A
  unfold cn1
  rw [A1, cntK_yes h0 A2, cnt_pr h0 (fun m g1 g2 => (A5 m (by omega)).1)]
theorem cn1.A0 {v v' : eW} {a e : Int} (A : nmA v v' 0 a e) (h0 : 0 ≤ v 275 94) : cn1 v' = cn1 v := by
  obtain ⟨A1, ⟨A2, -, -⟩, A5⟩ := A
  have hk : v' 341 (v 275 94) ≠ 1 := by rw [A2]; decide
  unfold cn1
  rw [A1, cntK_no h0 hk, cnt_pr h0 (fun m g1 g2 => (A5 m (by omega)).1)]
theorem cn1_up {v : eW} {k : Int} (h0 : 0 ≤ k) : ∀ n : Nat, (∀ i, k ≤ i → i < k + (n : Int) → 2 ≤ v 341 i) → cntK v 1 (k + (n : Int)) = cntK v 1 k := by
  intro n
  induction n with
  | zero => intro _; rw [show k + ((0 : Nat) : Int) = k by omega]
  | succ n ih =>
    intro h
    have q := h (k + (n : Int)) (by omega) (by omega)
    rw [show k + ((n + 1 : Nat) : Int) = k + (n : Int) + 1 by omega, cntK_no (by omega) (by omega)]
    exact ih (fun i h1 h2 => h i h1 (by omega))
theorem cn1.X {v v' : eW} (h : nmX 2 v v') (h0 : 0 ≤ v 275 94) : cn1 v' = cn1 v := by
  obtain ⟨h1, h2, h3⟩ := h
  have q := cn1_up (v := v') h0 (v' 275 94 - v 275 94).toNat (fun i i1 i2 => h3 i i1 (by omega))
  rw [show v 275 94 + (((v' 275 94 - v 275 94).toNat : Nat) : Int) = v' 275 94 by omega] at q
  unfold cn1
  rw [q]
  exact cnt_pr h0 (fun m g1 g2 => (h2 m g2).1)
theorem wl_idem {T : Int → Int} {N : Int} (n : Nat) : ∀ p, (N - p).toNat = n → wl T N (p + wl T N p) = 0 := by
  induction n with
  | zero =>
    intro p hp
    by_cases h : nmB (byT T N p)
    · have := (nmB_in h).1; omega
    · rw [wl_no h, show p + 0 = p by omega]; exact wl_no h
  | succ n ih =>
    intro p hp
    by_cases h : nmB (byT T N p)
    · rw [wl_yes h, show p + (1 + wl T N (p + 1)) = p + 1 + wl T N (p + 1) by omega]
      exact ih (p + 1) (by omega)
    · rw [wl_no h, show p + 0 = p by omega]; exact wl_no h
/-- two words do not touch -/
theorem TK.apart {N cd b s o pz l m t ka : Int} {w v w1 v1 w' v' : eW} (hs : st N cd w v w1 v1 s o b pz l m t ka) (h : TK N w1 v1 w' v') (h1 : w1 1 5 = 1 ∨ 21 ≤ w1 1 5) (h2 : w' 1 5 = 1) : w1 1 7 + 1 ≤ w' 1 6 := by
  have e1 := hs.1.2.2.1.2 h1
  have e2 := h.2.2.1.2 (Or.inl h2)
  have k := h.2.1.2.1
  have q := h.2.2.2.1
  by_cases g : w1 1 7 = w' 1 6
  · exfalso
    have e : w' 5 = w1 5 := funext (fun i => h.2.2.2.2.1 5 i (by unfold kRa; omega))
    have i := wl_idem (T := w1 5) (N := N) _ (w1 1 6) rfl
    have x : w1 1 6 + wl (w1 5) N (w1 1 6) = w1 1 7 := by unfold wl; omega
    rw [x, g] at i
    unfold wl at i
    rw [e] at e2
    omega
  · omega
theorem kRw.vs {cd : Int} {w w' : eW} (h : kRw cd w) (f : e_fr (kVs cd) w w') : kRw cd w' := by
  have n := h.1.m
  exact kRw.fr2 f (fun k q => by unfold kVs at q; omega) (fun k q => by unfold kVs at q; omega) h
theorem NR.r500 {N cd B : Int} {w v : eW} (h : NR N cd B w v) : w 1 14 ≤ 500 := by
  have t := h.2.1.2.1
  unfold minB at t
  omega
/-- a call of a routine that was not told -/
def misC (w : eW) (cd N n x : Int) : Prop := ∃ i, (0 ≤ i ∧ i < n) ∧ isCl3 (w (cd + 2) i % 64) ∧ w (cd + 2) i / 64 = x ∧ ∀ j, 0 ≤ j → j < w 1 14 → ¬ snm (w 5) N (w 7 j) x
/-- the first fault of names, with those of routines up to row n -/
def senJ (w : eW) (cd N n s p : Int) : Prop := (s = 0 ∧ w 1 9 = 0 ∧ ∀ x, ¬ misC w cd N n x) ∨ (s ≠ 0 ∧ ((w 1 9 ≠ 0 ∧ p = w 1 10) ∨ misC w cd N n p) ∧ (w 1 9 ≠ 0 → p ≤ w 1 10) ∧ ∀ x, misC w cd N n x → p ≤ x)
theorem misC.up {w : eW} {cd N n x : Int} (h : misC w cd N (n + 1) x) : misC w cd N n x ∨ (isCl3 (w (cd + 2) n % 64) ∧ w (cd + 2) n / 64 = x ∧ ∀ j, 0 ≤ j → j < w 1 14 → ¬ snm (w 5) N (w 7 j) x) := by
  obtain ⟨i, i1, i2, i3⟩ := h
  by_cases q : i = n
  · subst q; exact Or.inr ⟨i2, i3⟩
  · exact Or.inl ⟨i, ⟨i1.1, by omega⟩, i2, i3⟩
theorem misC.mono {w : eW} {cd N n x : Int} (h : misC w cd N n x) : misC w cd N (n + 1) x := by
  obtain ⟨i, i1, i2, i3⟩ := h
  exact ⟨i, ⟨i1.1, by omega⟩, i2, i3⟩
theorem senJ.z {w : eW} {cd N : Int} : senJ w cd N 0 (w 1 9) (w 1 10) := by
  have no : ∀ x, ¬ misC w cd N 0 x := fun x h => by obtain ⟨i, i1, -⟩ := h; omega
  by_cases s : w 1 9 = 0
  · exact Or.inl ⟨s, s, no⟩
  · exact Or.inr ⟨s, Or.inl ⟨s, rfl⟩, fun _ => Int.le_refl _, fun x h => absurd h (no x)⟩
/-- a row that calls no routine, or one that was told -/
theorem senJ.skip {w : eW} {cd N n s p : Int} (h : senJ w cd N n s p) (hn : ¬ (isCl3 (w (cd + 2) n % 64) ∧ ∀ j, 0 ≤ j → j < w 1 14 → ¬ snm (w 5) N (w 7 j) (w (cd + 2) n / 64))) : senJ w cd N (n + 1) s p := by
  have down : ∀ x, misC w cd N (n + 1) x → misC w cd N n x := fun x q => by
    rcases q.up with q | ⟨q1, q2, q3⟩
    · exact q
    · subst q2; exact absurd ⟨q1, q3⟩ hn
  rcases h with ⟨a, b, c⟩ | ⟨a, b, c, d⟩
  · exact Or.inl ⟨a, b, fun x q => c x (down x q)⟩
  · refine Or.inr ⟨a, ?_, c, fun x q => d x (down x q)⟩
    rcases b with b | b
    · exact Or.inl b
    · exact Or.inr b.mono
/-- a row that calls a routine that was not told -/
theorem senJ.miss {w v v' : eW} {cd N n x : Int} (h : senJ w cd N n (v 1 9) (v 1 10)) (h0 : 0 ≤ n) (hx : w (cd + 2) n / 64 = x) (h1 : isCl3 (w (cd + 2) n % 64)) (h2 : ∀ j, 0 ≤ j → j < w 1 14 → ¬ snm (w 5) N (w 7 j) x) (hc : cplQ v v' 5 x) : senJ w cd N (n + 1) (v' 1 9) (v' 1 10) := by
  have me : misC w cd N (n + 1) x := ⟨n, ⟨h0, by omega⟩, h1, hx, h2⟩
  rcases hc with ⟨c1, c2⟩ | ⟨c1, c2, c3⟩
  · subst c2
    have e9 : e_up (e_up v 1 9 5) 1 10 x 1 9 = 5 := by rw [e_up_ne _ _ (Or.inr (by decide)), e_up_eq]
    have e10 : e_up (e_up v 1 9 5) 1 10 x 1 10 = x := e_up_eq _ _ _ _
    rw [e9, e10]
    refine Or.inr ⟨by decide, Or.inr me, fun g => ?_, fun y q => ?_⟩
    · rcases h with ⟨a, b, c⟩ | ⟨a, b, c, d⟩
      · exact absurd b g
      · have := c g; omega
    · rcases q.up with q | ⟨q1, q2, q3⟩
      · rcases h with ⟨a, b, c⟩ | ⟨a, b, c, d⟩
        · exact absurd q (c y)
        · have := d y q; omega
      · omega
  · subst c3
    rcases h with ⟨a, b, c⟩ | ⟨a, b, c, d⟩
    · exact absurd a c1
    · refine Or.inr ⟨a, ?_, c, fun y q => ?_⟩
      · rcases b with b | b
        · exact Or.inl b
        · exact Or.inr b.mono
      · rcases q.up with q | ⟨q1, q2, q3⟩
        · exact d y q
        · omega
/-- what findRoutines may write -/
def kFr (cd c k : Int) : Prop := c = cd + 2 ∨ (c = cd ∧ k = 1) ∨ (c = 1 ∧ (k = 9 ∨ k = 10))
end
