noncomputable section
/-! names that are told: variables and routines -/
section NRT
variable {N cd B k a e : Int} {w v w' v' : eW}
/-- the class finds a name that was told before -/
def dupK (N cd : Int) (w : eW) (x : Int) : Prop := (∃ j, 0 ≤ j ∧ j < w cd 2 ∧ snm (w 5) N (w 6 j) x) ∨ (∃ j, 0 ≤ j ∧ j < w 1 14 ∧ snm (w 5) N (w 7 j) x)
def dupM (N : Int) (T : Int → Int) (v : eW) (n x : Int) : Prop := ∃ k, (0 ≤ k ∧ k < n) ∧ (v 341 k = 0 ∨ v 341 k = 1) ∧ snm T N (v 342 k) x
/-- while no name is at fault, the class's table has all routines -/
theorem NR.rous (h : NR N cd B w v) (hs : w 1 9 = 0) : w 1 14 = cntK v 1 (v 275 94) ∧ w 1 14 ≤ 32 ∧ (∀ i, 0 ≤ i → i < v 275 94 → v 341 i = 1 → 0 ≤ cntK v 1 i ∧ cntK v 1 i < w 1 14 ∧ w 7 (cntK v 1 i) = v 342 i) ∧ (∀ j, 0 ≤ j → j < w 1 14 → ∃ i, (0 ≤ i ∧ i < v 275 94) ∧ v 341 i = 1 ∧ w 7 j = v 342 i) := by
  obtain ⟨⟨⟨n0, -⟩, -, -, -⟩, ⟨-, t1, t2⟩, n6⟩ := h
  have all : ∀ n, 0 ≤ n → n < v 275 94 → ¬ bdK N (w 5) v n := by
    rcases n6 with ⟨-, q⟩ | ⟨q, -⟩
    · exact q
    · exact absurd hs q
  have en : ((v 275 94).toNat : Int) = v 275 94 := by omega
  have le : cntK v 1 (v 275 94) ≤ 32 := by
    by_cases g : cntK v 1 (v 275 94) ≤ 32
    · exact g
    · exfalso
      obtain ⟨i, i1, i2, i3⟩ := cnt_ex (v := v) (k := 1) (c := 32) (by decide) (v 275 94).toNat (by rw [en]; omega)
      rw [en] at i1
      exact all i i1.1 i1.2 (Or.inr (Or.inl ⟨Or.inr i2, Or.inr (by rw [i2, i3]; decide)⟩))
  have ex : w 1 14 = cntK v 1 (v 275 94) := by unfold minB at t1; omega
  refine ⟨ex, by omega, fun i i0 i1 i2 => ?_, fun j j0 j1 => ?_⟩
  · have a := cntK_nn v 1 i
    have b := cntK_lt i0 i1 i2
    exact ⟨a, by omega, t2 i i0 i1 i2 (by omega)⟩
  · obtain ⟨i, i1, i2, i3⟩ := cnt_ex (v := v) (k := 1) (c := j) j0 (v 275 94).toNat (by rw [en]; omega)
    rw [en] at i1
    exact ⟨i, i1, i2, by rw [← i3]; exact t2 i i1.1 i1.2 i2 (by omega)⟩
theorem NR.dup (h : NR N cd B w v) (hs : w 1 9 = 0) (x : Int) : dupK N cd w x ↔ dupM N (w 5) v (v 275 94) x := by
  obtain ⟨-, a1, a2⟩ := h.vars hs
  obtain ⟨-, -, b1, b2⟩ := h.rous hs
  constructor
  · rintro (⟨j, j0, j1, j2⟩ | ⟨j, j0, j1, j2⟩)
    · obtain ⟨i, i1, i2, i3⟩ := a2 j j0 j1
      exact ⟨i, i1, Or.inl i2, by rw [← i3]; exact j2⟩
    · obtain ⟨i, i1, i2, i3⟩ := b2 j j0 j1
      exact ⟨i, i1, Or.inr i2, by rw [← i3]; exact j2⟩
  · rintro ⟨i, i1, i2, i3⟩
    rcases i2 with i2 | i2
    · obtain ⟨q1, q2, q3⟩ := a1 i i1.1 i1.2 i2
      exact Or.inl ⟨_, q1, q2, by rw [q3]; exact i3⟩
    · obtain ⟨q1, q2, q3⟩ := b1 i i1.1 i1.2 i2
      exact Or.inr ⟨_, q1, q2, by rw [q3]; exact i3⟩
theorem bdK.tell (A : nmA v v' k a e) (h0 : 0 ≤ v 275 94) (hk : k = 0 ∨ k = 1) (T : Int → Int) : bdK N T v' (v 275 94) ↔ (dupM N T v (v 275 94) a ∨ 32 ≤ cntK v k (v 275 94)) := by
  obtain ⟨A1, ⟨A2, A3, -⟩, A5⟩ := A
  have ec : cntK v' k (v 275 94) = cntK v k (v 275 94) := cnt_pr h0 (fun m g1 g2 => (A5 m (by omega)).1)
  constructor
  · rintro (q | ⟨-, ⟨i, i1, i2, i3⟩ | q⟩ | ⟨q, -⟩)
    · omega
    · refine Or.inl ⟨i, i1, ?_, ?_⟩
      · rw [← (A5 i (by omega)).1]; exact i2
      · rw [← (A5 i (by omega)).2.1, ← A3]; exact i3
    · rw [A2, ec] at q
      exact Or.inr q
    · omega
  · rintro (⟨i, i1, i2, i3⟩ | q)
    · refine Or.inr (Or.inl ⟨by omega, Or.inl ⟨i, i1, ?_, ?_⟩⟩)
      · rw [(A5 i (by omega)).1]; exact i2
      · rw [(A5 i (by omega)).2.1, A3]; exact i3
    · exact Or.inr (Or.inl ⟨by omega, Or.inr (by rw [A2, ec]; exact q)⟩)
/-- two complaints at the token, one behind the other -/
def chkQ (N cd : Int) (w w' : eW) (x : Int) : Prop := (dupK N cd w x ∧ cplQ w w' 4 x) ∨ (¬ dupK N cd w x ∧ w = w')
theorem chkQ.of {x : Int} (h : (((∃ j, 0 ≤ j ∧ j < w cd 2 ∧ snm (w 5) N (w 6 j) x) ∨ (∃ j, 0 ≤ j ∧ j < w 1 14 ∧ snm (w 5) N (w 7 j) x)) ∧ cplQ w w' 4 x) ∨ ((∀ j, 0 ≤ j → j < w cd 2 → ¬ snm (w 5) N (w 6 j) x) ∧ (∀ j, 0 ≤ j → j < w 1 14 → ¬ snm (w 5) N (w 7 j) x) ∧ w = w')) : chkQ N cd w w' x := by
  rcases h with h | ⟨h1, h2, h3⟩
  · exact Or.inl h
  · refine Or.inr ⟨?_, h3⟩
    rintro (⟨j, j0, j1, j2⟩ | ⟨j, j0, j1, j2⟩)
    · exact h1 j j0 j1 j2
    · exact h2 j j0 j1 j2
theorem chkQ.fr {x : Int} (h : chkQ N cd w w' x) : e_fr kRc w w' := by
  rcases h with ⟨-, h⟩ | ⟨-, h⟩
  · exact h.fr
  · subst h; exact e_fr.refl w
/-- what a check of a new name and a second complaint (or none) do to the first fault -/
theorem NR.chk {wa wb : eW} {x : Int} (h : NR N cd B w v) (hx : B ≤ x) (h1 : chkQ N cd w wa x) (full : Prop) (h2 : (full ∧ cplQ wa wb 7 x) ∨ (¬ full ∧ wb 1 9 = wa 1 9 ∧ wb 1 10 = wa 1 10)) : (w 1 9 = 0 ∧ (((dupK N cd w x ∨ full) ∧ wb 1 9 ≠ 0 ∧ wb 1 10 = x) ∨ (¬ (dupK N cd w x ∨ full) ∧ wb 1 9 = 0))) ∨ (w 1 9 ≠ 0 ∧ wb 1 9 = w 1 9 ∧ wb 1 10 = w 1 10) := by
  have sp : w 1 9 ≠ 0 → w 1 10 < x := by
    obtain ⟨⟨-, -, n3, -⟩, -, n6⟩ := h
    intro g
    rcases n6 with ⟨s, -⟩ | ⟨s, b, b1, -, -, b4⟩
    · exact absurd s g
    · have := (n3 b b1.1 b1.2).1.2
      omega
  have q1 : (dupK N cd w x ∧ ((w 1 9 = 0 ∧ wa 1 9 = 4 ∧ wa 1 10 = x) ∨ (w 1 9 ≠ 0 ∧ wa 1 9 = w 1 9 ∧ wa 1 10 = w 1 10))) ∨ (¬ dupK N cd w x ∧ wa 1 9 = w 1 9 ∧ wa 1 10 = w 1 10) := by
    rcases h1 with ⟨d, ⟨c1, c2⟩ | ⟨c1, c2, c3⟩⟩ | ⟨d, c2⟩
    · subst c2
      refine Or.inl ⟨d, ?_⟩
      by_cases s : w 1 9 = 0
      · exact Or.inl ⟨s, by rw [e_up_ne _ _ (Or.inr (by decide)), e_up_eq], e_up_eq _ _ _ _⟩
      · have := sp s; omega
    · exact Or.inl ⟨d, Or.inr ⟨c1, by rw [c3], by rw [c3]⟩⟩
    · subst c2
      exact Or.inr ⟨d, rfl, rfl⟩
  have q2 : (full ∧ ((wa 1 9 = 0 ∧ wb 1 9 = 7 ∧ wb 1 10 = x) ∨ (wa 1 9 ≠ 0 ∧ wb 1 9 = wa 1 9 ∧ wb 1 10 = wa 1 10) ∨ (wa 1 9 ≠ 0 ∧ x = wa 1 10 ∧ wb 1 9 ≠ 0 ∧ wb 1 10 = x) ∨ (wa 1 9 ≠ 0 ∧ x < wa 1 10))) ∨ (¬ full ∧ wb 1 9 = wa 1 9 ∧ wb 1 10 = wa 1 10) := by
    rcases h2 with ⟨f, ⟨c1, c2⟩ | ⟨c1, c2, c3⟩⟩ | h2
    · subst c2
      refine Or.inl ⟨f, ?_⟩
      have e9 : e_up (e_up wa 1 9 7) 1 10 x 1 9 = 7 := by rw [e_up_ne _ _ (Or.inr (by decide)), e_up_eq]
      have e10 : e_up (e_up wa 1 9 7) 1 10 x 1 10 = x := e_up_eq _ _ _ _
      by_cases s : wa 1 9 = 0
      · exact Or.inl ⟨s, e9, e10⟩
      · rcases c1 with c1 | c1 | c1
        · exact absurd c1 s
        · exact Or.inr (Or.inr (Or.inr ⟨s, c1⟩))
        · exact Or.inr (Or.inr (Or.inl ⟨s, by omega, by rw [e9]; decide, e10⟩))
    · exact Or.inl ⟨f, Or.inr (Or.inl ⟨c1, by rw [c3], by rw [c3]⟩)⟩
    · exact Or.inr h2
  by_cases s : w 1 9 = 0
  · refine Or.inl ⟨s, ?_⟩
    rcases q1 with ⟨d, q1⟩ | ⟨d, q1⟩
    · refine Or.inl ⟨Or.inl d, ?_⟩
      rcases q2 with ⟨f, q2⟩ | ⟨f, q2⟩ <;> omega
    · rcases q2 with ⟨f, q2⟩ | ⟨f, q2⟩
      · exact Or.inl ⟨Or.inr f, by omega⟩
      · exact Or.inr ⟨fun q => q.elim d f, by omega⟩
  · have := sp s
    refine Or.inr ⟨s, ?_⟩
    rcases q1 with ⟨d, q1⟩ | ⟨d, q1⟩ <;> rcases q2 with ⟨f, q2⟩ | ⟨f, q2⟩ <;> omega
theorem NT.add0 {x y x' : Int} {f g f' : Int → Int} (h : NT v x y f g) (h0 : 0 ≤ v 275 94) (A : nmA v v' 0 a e) (hx : (x < 32 ∧ x' = x + 1 ∧ f' x = a ∧ ∀ j, j ≠ x → f' j = f j) ∨ (32 ≤ x ∧ x' = x ∧ f' = f)) : NT v' x' y f' g := by
  obtain ⟨A1, ⟨A2, A3, -⟩, A5⟩ := A
  have ec : ∀ q i, 0 ≤ i → i ≤ v 275 94 → cntK v' q i = cntK v q i := fun q i i0 i1 => cnt_pr i0 (fun m g1 g2 => (A5 m (by omega)).1)
  have e0 : cntK v' 0 (v' 275 94) = cntK v 0 (v 275 94) + 1 := by rw [A1, cntK_yes h0 A2, ec 0 _ h0 (Int.le_refl _)]
  have e1 : cntK v' 1 (v' 275 94) = cntK v 1 (v 275 94) := by rw [A1, cntK_no h0 (by omega), ec 1 _ h0 (Int.le_refl _)]
  obtain ⟨⟨h1, h2⟩, h3, h4⟩ := h
  refine ⟨⟨?_, fun i i0 i1 i2 i3 => ?_⟩, by rw [e1]; exact h3, fun i i0 i1 i2 i3 => ?_⟩
  · rw [e0]
    unfold minB at h1 ⊢
    rcases hx with hx | hx <;> omega
  · by_cases q : i = v 275 94
    · subst q
      rw [ec 0 _ h0 (Int.le_refl _)] at i3 ⊢
      rw [A3]
      unfold minB at h1
      rcases hx with ⟨x1, -, x3, -⟩ | hx
      · rw [show cntK v 0 (v 275 94) = x by omega]; exact x3
      · omega
    · rw [ec 0 i i0 (by omega)] at i3 ⊢
      rw [(A5 i q).2.1]
      rw [(A5 i q).1] at i2
      have lt := cntK_lt i0 (show i < v 275 94 by omega) i2
      rcases hx with ⟨x1, -, -, x4⟩ | ⟨-, -, x3⟩
      · rw [x4 _ (by unfold minB at h1; omega)]; exact h2 i i0 (by omega) i2 i3
      · rw [x3]; exact h2 i i0 (by omega) i2 i3
  · have q : i ≠ v 275 94 := fun q => by rw [q, A2] at i2; omega
    rw [ec 1 i i0 (by omega)] at i3 ⊢
    rw [(A5 i q).2.1]
    exact h4 i i0 (by omega) (by rw [← (A5 i q).1]; exact i2) i3
theorem NT.add1 {x y y' : Int} {f g g' : Int → Int} (h : NT v x y f g) (h0 : 0 ≤ v 275 94) (A : nmA v v' 1 a e) (hx : (y < 500 ∧ y' = y + 1 ∧ g' y = a ∧ ∀ j, j ≠ y → g' j = g j) ∨ (500 ≤ y ∧ y' = y ∧ g' = g)) : NT v' x y' f g' := by
  obtain ⟨A1, ⟨A2, A3, -⟩, A5⟩ := A
  have ec : ∀ q i, 0 ≤ i → i ≤ v 275 94 → cntK v' q i = cntK v q i := fun q i i0 i1 => cnt_pr i0 (fun m g1 g2 => (A5 m (by omega)).1)
  have e0 : cntK v' 1 (v' 275 94) = cntK v 1 (v 275 94) + 1 := by rw [A1, cntK_yes h0 A2, ec 1 _ h0 (Int.le_refl _)]
  have e1 : cntK v' 0 (v' 275 94) = cntK v 0 (v 275 94) := by rw [A1, cntK_no h0 (by omega), ec 0 _ h0 (Int.le_refl _)]
  obtain ⟨⟨h1, h2⟩, h3, h4⟩ := h
  refine ⟨⟨by rw [e1]; exact h1, fun i i0 i1 i2 i3 => ?_⟩, ?_, fun i i0 i1 i2 i3 => ?_⟩
  · have q : i ≠ v 275 94 := fun q => by rw [q, A2] at i2; omega
    rw [ec 0 i i0 (by omega)] at i3 ⊢
    rw [(A5 i q).2.1]
    exact h2 i i0 (by omega) (by rw [← (A5 i q).1]; exact i2) i3
  · rw [e0]
    unfold minB at h3 ⊢
    rcases hx with hx | hx <;> omega
  · by_cases q : i = v 275 94
    · subst q
      rw [ec 1 _ h0 (Int.le_refl _)] at i3 ⊢
      rw [A3]
      unfold minB at h3
      rcases hx with ⟨x1, -, x3, -⟩ | hx
      · rw [show cntK v 1 (v 275 94) = y by omega]; exact x3
      · omega
    · rw [ec 1 i i0 (by omega)] at i3 ⊢
      rw [(A5 i q).2.1]
      rw [(A5 i q).1] at i2
      have lt := cntK_lt i0 (show i < v 275 94 by omega) i2
      rcases hx with ⟨x1, -, -, x4⟩ | ⟨-, -, x3⟩
      · rw [x4 _ (by unfold minB at h3; omega)]; exact h4 i i0 (by omega) i2 i3
      · rw [x3]; exact h4 i i0 (by omega) i2 i3
end NRT
/-- what telling a name may write on the class's side -/
def kVs (cd c k : Int) : Prop := (c = 1 ∧ (k = 9 ∨ k = 10 ∨ k = 14)) ∨ c = 6 ∨ c = 7 ∨ (c = cd ∧ k = 2) ∨ c = cd + 1
section STV
variable {N cd s o b pz l m t ka : Int} {w v w1 v1 w2 v2 : eW}
theorem nmA_st2 (h : st N cd w v w1 v1 s o 0 pz l m t ka) {k a e : Int} (A : nmA v1 v2 k a e) (g : e_fr mNmQ v1 v2) (f : e_fr (kVs cd) w1 w2) (hk3 : k ≠ 3) (hka : ka ≤ k) (hN : NR N cd (w1 1 6 + 1) w2 v2) : st N cd w v w2 v2 s o 1 pz l m t ka := by
  obtain ⟨a1, a2, a3, a4, a5, a6, a7, a8⟩ := h
  have n := a1.2.2.2.1.1.m
  have F : ∀ c k, ¬ ((c = 1 ∧ (k = 9 ∨ k = 10 ∨ k = 14)) ∨ c = 6 ∨ c = 7 ∨ (c = cd ∧ k = 2) ∨ c = cd + 1) → w2 c k = w1 c k := f
  have G : ∀ c k, ¬ ((341 ≤ c ∧ c ≤ 344) ∨ (c = 275 ∧ k = 94)) → v2 c k = v1 c k := g
  have e0 : w2 cd 0 = w1 cd 0 := F _ _ (by omega)
  have e6 : w2 1 6 = w1 1 6 := F _ _ (by omega)
  have er : w2 (cd + 2) = w1 (cd + 2) := funext (fun i => F _ _ (by omega))
  have e80 : v2 275 80 = v1 275 80 := G _ _ (by omega)
  have h80 := a1.2.2.2.2.2.2
  have n0 := a2.1.1.1
  have A' := A
  obtain ⟨A1, ⟨A2, A3, -⟩, A5⟩ := A
  refine ⟨a1.fr f g (fun c k q => by unfold kVs at q; unfold kNtk; omega) (fun k q => by unfold kVs at q; omega) (fun k q => by unfold kVs at q; omega) (fun c k q => by unfold mNmQ at q; unfold mNtk; omega) (fun k q => by unfold mNmQ at q; omega) (by rw [e0]; exact a1.2.2.2.2.2.1) (by omega), by rw [e6]; exact hN, fun q z => ?_, ⟨(F 1 11 (by omega)).trans a4.1, (G 275 83 (by omega)).trans a4.2⟩, ⟨(F 1 13 (by omega)).trans a5.1, (G 275 82 (by omega)).trans a5.2.1, (F 1 12 (by omega)).trans a5.2.2⟩, by omega, fun q i hi => by rw [er]; exact a7 (by omega) i hi, a8.A A' hka⟩
  rw [e0] at q ⊢
  rw [er, a3 q z]
  constructor
  · rintro ⟨i, i1, i2, i3⟩
    exact ⟨i, ⟨i1.1, by omega⟩, by rw [(A5 i (by omega)).1]; exact i2, by rw [(A5 i (by omega)).2.1]; exact i3⟩
  · rintro ⟨i, i1, i2, i3⟩
    have q2 : i ≠ v1 275 94 := fun e => by rw [e, A2] at i2; exact hk3 i2
    exact ⟨i, ⟨i1.1, by omega⟩, by rw [← (A5 i q2).1]; exact i2, by rw [← (A5 i q2).2.1]; exact i3⟩
/-- a variable that is told -/
theorem st.var (hka : ka ≤ 0) (h : st N cd w v w1 v1 s o 0 pz l m t ka) (hk : w1 1 5 = 1) (all0 : ∀ i, 0 ≤ i → i < v1 275 94 → v1 341 i = 0) {wa : eW} (h1 : chkQ N cd w1 wa (w1 1 6)) (h2 : (wa cd 2 < 32 ∧ e_up (e_up wa 6 (wa cd 2) (w1 1 6)) cd 2 (wa cd 2 + 1) = w2) ∨ (32 ≤ wa cd 2 ∧ cplQ wa w2 7 (w1 1 6))) {a e : Int} (A : nmA v1 v2 0 a e) (ha : a = v1 275 86) (he : e = v1 275 87 - v1 275 86) (g : e_fr mNmQ v1 v2) : st N cd w v w2 v2 s o 1 pz l m t ka ∧ ∀ i, 0 ≤ i → i < v2 275 94 → v2 341 i = 0 := by
  obtain ⟨u1, u2, u3, u4, u5, u6⟩ := h.1.word hk
  have hN := h.2.1
  rw [show w1 1 6 + 0 = w1 1 6 by omega] at hN
  have n0 := hN.1.1.1
  have n := h.1.2.2.2.1.1.m
  have Fa : ∀ c k, ¬ (c = 1 ∧ (k = 9 ∨ k = 10)) → wa c k = w1 c k := h1.fr
  have ea2 : wa cd 2 = w1 cd 2 := Fa _ _ (by omega)
  have F : ∀ c k, ¬ ((c = 1 ∧ (k = 9 ∨ k = 10)) ∨ c = 6 ∨ (c = cd ∧ k = 2)) → w2 c k = w1 c k := by
    intro c k q
    rw [← Fa c k (by omega)]
    rcases h2 with ⟨-, h2⟩ | ⟨-, h2⟩
    · rw [← h2, e_up_ne _ _ (by by_cases e : c = cd; exact Or.inr (by omega); exact Or.inl e), e_up_ne _ _ (Or.inl (by omega))]
    · exact h2.fr c k (by unfold kRc; omega)
  have hx : (w1 cd 2 < 32 ∧ w2 cd 2 = w1 cd 2 + 1 ∧ w2 6 (w1 cd 2) = a ∧ ∀ j, j ≠ w1 cd 2 → w2 6 j = w1 6 j) ∨ (32 ≤ w1 cd 2 ∧ w2 cd 2 = w1 cd 2 ∧ w2 6 = w1 6) := by
    rcases h2 with ⟨p, h2⟩ | ⟨p, h2⟩
    · refine Or.inl ⟨by omega, by rw [← h2, e_up_eq]; omega, ?_, fun j hj => ?_⟩
      · rw [← h2, e_up_ne _ _ (Or.inl (by omega)), ← ea2, e_up_eq]; omega
      · rw [← h2, e_up_ne _ _ (Or.inl (by omega)), e_up_ne _ _ (Or.inr (by omega))]; exact Fa _ _ (by omega)
    · have f2 := h2.fr
      exact Or.inr ⟨by omega, (f2 cd 2 (by unfold kRc; omega)).trans ea2, funext (fun i => (f2 6 i (by unfold kRc; omega)).trans (Fa 6 i (by omega)))⟩
  have hT : NT v2 (w2 cd 2) (w2 1 14) (w2 6) (w2 7) := by
    rw [F 1 14 (by omega), show w2 7 = w1 7 from funext (fun i => F _ _ (by omega))]
    exact hN.2.1.add0 n0 A hx
  have c32 : 32 ≤ cntK v1 0 (v1 275 94) ↔ 32 ≤ w1 cd 2 := by
    have := hN.2.1.1.1
    unfold minB at this
    omega
  have h2' : (32 ≤ w1 cd 2 ∧ cplQ wa w2 7 (w1 1 6)) ∨ (¬ 32 ≤ w1 cd 2 ∧ w2 1 9 = wa 1 9 ∧ w2 1 10 = wa 1 10) := by
    rcases h2 with ⟨p, h2⟩ | ⟨p, h2⟩
    · exact Or.inr ⟨by omega, by rw [← h2, e_up_ne _ _ (Or.inl (by omega)), e_up_ne _ _ (Or.inl (by decide))], by rw [← h2, e_up_ne _ _ (Or.inl (by omega)), e_up_ne _ _ (Or.inl (by decide))]⟩
    · exact Or.inl ⟨by omega, h2⟩
  have fin := hN.chk (Int.le_refl _) h1 (32 ≤ w1 cd 2) h2'
  refine ⟨nmA_st2 h A g (fun c k q => F c k (fun r => q (by unfold kVs; omega))) (by decide) (by omega) ?_, fun i i0 i1 => ?_⟩
  · refine NR.add hN (by omega) u5 A (by decide) (fun _ => ⟨by rw [he, u2, ha, u1], by omega, by omega⟩) (fun _ => all0) (funext (fun i => F _ _ (by omega))) hT ?_
    rcases fin with ⟨s0, fin⟩ | fin
    · refine Or.inl ⟨s0, ?_⟩
      have bt := bdK.tell (N := N) A n0 (Or.inl rfl) (w1 5)
      have dp := hN.dup s0 a
      rw [show a = w1 1 6 by omega] at bt dp ⊢
      rw [bt, ← dp, c32]
      exact fin
    · exact Or.inr fin
  · obtain ⟨A1, ⟨A2, -⟩, A5⟩ := A
    by_cases q : i = v1 275 94
    · rw [q]; exact A2
    · rw [(A5 i q).1]; exact all0 i i0 (by omega)
/-- a routine that is told -/
theorem st.rou (hka : ka ≤ 1) (h : st N cd w v w1 v1 s o 0 pz l m t ka) (hk : w1 1 5 = 1) {wa wb : eW} {x : Int} (h1 : chkQ N cd w1 wa (w1 1 6)) (h2 : (wa 1 14 < 32 ∧ e_up wa (cd + 1) (wa 1 14) x = wb) ∨ (32 ≤ wa 1 14 ∧ cplQ wa wb 7 (w1 1 6))) (h3 : (wb 1 14 < 500 ∧ e_up (e_up wb 7 (wb 1 14) (w1 1 6)) 1 14 (wb 1 14 + 1) = w2) ∨ (500 ≤ wb 1 14 ∧ wb = w2)) {a e : Int} (A : nmA v1 v2 1 a e) (ha : a = v1 275 86) (he : e = v1 275 87 - v1 275 86) (g : e_fr mNmQ v1 v2) : st N cd w v w2 v2 s o 1 pz l m t ka := by
  obtain ⟨u1, u2, u3, u4, u5, u6⟩ := h.1.word hk
  have hN := h.2.1
  rw [show w1 1 6 + 0 = w1 1 6 by omega] at hN
  have n0 := hN.1.1.1
  have n := h.1.2.2.2.1.1.m
  have Fa : ∀ c k, ¬ (c = 1 ∧ (k = 9 ∨ k = 10)) → wa c k = w1 c k := h1.fr
  have Fb : ∀ c k, ¬ ((c = 1 ∧ (k = 9 ∨ k = 10)) ∨ c = cd + 1) → wb c k = w1 c k := by
    intro c k q
    rw [← Fa c k (by omega)]
    rcases h2 with ⟨-, h2⟩ | ⟨-, h2⟩
    · rw [← h2, e_up_ne _ _ (Or.inl (by omega))]
    · exact h2.fr c k (by unfold kRc; omega)
  have ea : wa 1 14 = w1 1 14 := Fa _ _ (by omega)
  have eb : wb 1 14 = w1 1 14 := Fb _ _ (by omega)
  have F : ∀ c k, ¬ ((c = 1 ∧ (k = 9 ∨ k = 10 ∨ k = 14)) ∨ c = 7 ∨ c = cd + 1) → w2 c k = w1 c k := by
    intro c k q
    rw [← Fb c k (by omega)]
    rcases h3 with ⟨-, h3⟩ | ⟨-, h3⟩
    · rw [← h3, e_up_ne _ _ (by by_cases e : c = 1; exact Or.inr (by omega); exact Or.inl e), e_up_ne _ _ (Or.inl (by omega))]
    · rw [h3]
  have s9 : w2 1 9 = wb 1 9 ∧ w2 1 10 = wb 1 10 := by
    rcases h3 with ⟨-, h3⟩ | ⟨-, h3⟩
    · rw [← h3]
      exact ⟨by rw [e_up_ne _ _ (Or.inr (by decide)), e_up_ne _ _ (Or.inl (by decide))], by rw [e_up_ne _ _ (Or.inr (by decide)), e_up_ne _ _ (Or.inl (by decide))]⟩
    · rw [h3]; exact ⟨rfl, rfl⟩
  have hx : (w1 1 14 < 500 ∧ w2 1 14 = w1 1 14 + 1 ∧ w2 7 (w1 1 14) = a ∧ ∀ j, j ≠ w1 1 14 → w2 7 j = w1 7 j) ∨ (500 ≤ w1 1 14 ∧ w2 1 14 = w1 1 14 ∧ w2 7 = w1 7) := by
    rcases h3 with ⟨p, h3⟩ | ⟨p, h3⟩
    · refine Or.inl ⟨by omega, by rw [← h3, e_up_eq]; omega, ?_, fun j hj => ?_⟩
      · rw [← h3, e_up_ne _ _ (Or.inl (by omega)), ← eb, e_up_eq]; omega
      · rw [← h3, e_up_ne _ _ (Or.inl (by omega)), e_up_ne _ _ (Or.inr (by omega))]; exact Fb _ _ (by omega)
    · subst h3
      exact Or.inr ⟨by omega, eb, funext (fun i => Fb _ _ (by omega))⟩
  have hT : NT v2 (w2 cd 2) (w2 1 14) (w2 6) (w2 7) := by
    rw [F cd 2 (by omega), show w2 6 = w1 6 from funext (fun i => F _ _ (by omega))]
    exact hN.2.1.add1 n0 A hx
  have c32 : 32 ≤ cntK v1 1 (v1 275 94) ↔ 32 ≤ w1 1 14 := by
    have := hN.2.1.2.1
    unfold minB at this
    omega
  have h2' : (32 ≤ w1 1 14 ∧ cplQ wa wb 7 (w1 1 6)) ∨ (¬ 32 ≤ w1 1 14 ∧ wb 1 9 = wa 1 9 ∧ wb 1 10 = wa 1 10) := by
    rcases h2 with ⟨p, h2⟩ | ⟨p, h2⟩
    · exact Or.inr ⟨by omega, by rw [← h2, e_up_ne _ _ (Or.inl (by omega))], by rw [← h2, e_up_ne _ _ (Or.inl (by omega))]⟩
    · exact Or.inl ⟨by omega, h2⟩
  have fin := hN.chk (Int.le_refl _) h1 (32 ≤ w1 1 14) h2'
  refine nmA_st2 h A g (fun c k q => F c k (fun r => q (by unfold kVs; omega))) (by decide) (by omega) ?_
  refine NR.add hN (by omega) u5 A (by decide) (fun _ => ⟨by rw [he, u2, ha, u1], by omega, by omega⟩) (fun q => absurd q (by decide)) (funext (fun i => F _ _ (by omega))) hT ?_
  rw [s9.1, s9.2]
  rcases fin with ⟨s0, fin⟩ | fin
  · refine Or.inl ⟨s0, ?_⟩
    have bt := bdK.tell (N := N) A n0 (Or.inr rfl) (w1 5)
    have dp := hN.dup s0 a
    rw [show a = w1 1 6 by omega] at bt dp ⊢
    rw [bt, ← dp, c32]
    exact fin
  · exact Or.inr fin
end STV
end
