noncomputable section
/-! a name more -/
theorem cnt_ex {v : eW} {k c : Int} (hc : 0 ≤ c) : ∀ n : Nat, c < cntK v k (n : Int) → ∃ i, (0 ≤ i ∧ i < (n : Int)) ∧ v 341 i = k ∧ cntK v k i = c := by
  intro n
  induction n with
  | zero =>
    intro h
    exfalso
    have e : cntK v k ((0 : Nat) : Int) = 0 := rfl
    omega
  | succ n ih =>
    intro h
    have e := cntK_next v k (m := (n : Int)) (by omega)
    rw [show ((n + 1 : Nat) : Int) = (n : Int) + 1 by omega] at h
    rw [e] at h
    by_cases g : c < cntK v k (n : Int)
    · obtain ⟨i, i1, i2⟩ := ih g
      exact ⟨i, ⟨i1.1, by omega⟩, i2⟩
    · by_cases q : v 341 (n : Int) = k
      · rw [if_pos q] at h
        exact ⟨(n : Int), ⟨by omega, by omega⟩, q, by omega⟩
      · rw [if_neg q] at h
        omega
theorem cnt_pre {v v' : eW} {k : Int} : ∀ n : Nat, (∀ m, 0 ≤ m → m < (n : Int) → v' 341 m = v 341 m) → cntK v' k (n : Int) = cntK v k (n : Int) := by
  intro n
  induction n with
  | zero => intro _; rfl
  | succ n ih =>
    intro h
    rw [show ((n + 1 : Nat) : Int) = (n : Int) + 1 by omega, cntK_next v' k (by omega), cntK_next v k (by omega), ih (fun m g1 g2 => h m g1 (by omega)), h (n : Int) (by omega) (by omega)]
theorem cnt_pr {v v' : eW} {k n : Int} (hn : 0 ≤ n) (h : ∀ m, 0 ≤ m → m < n → v' 341 m = v 341 m) : cntK v' k n = cntK v k n := by
  have := cnt_pre (v := v) (v' := v') (k := k) n.toNat (fun m g1 g2 => h m g1 (by omega))
  rw [show ((n.toNat : Nat) : Int) = n by omega] at this
  exact this
theorem bdK.pre {N : Int} {T : Int → Int} {v v' : eW} {n : Int} (h0 : 0 ≤ n) (e : ∀ i, 0 ≤ i → i ≤ n → v' 341 i = v 341 i ∧ v' 342 i = v 342 i) (h : bdK N T v n) : bdK N T v' n := by
  have en := e n h0 (Int.le_refl n)
  have ec : ∀ k, cntK v' k n = cntK v k n := fun k => cnt_pr h0 (fun m g1 g2 => (e m g1 (by omega)).1)
  rcases h with h | ⟨h1, ⟨k, k1, k2, k3⟩ | h2⟩ | ⟨h1, h2⟩
  · exact Or.inl (en.1.trans h)
  · have ek := e k k1.1 (by omega)
    exact Or.inr (Or.inl ⟨by rw [en.1]; exact h1, Or.inl ⟨k, k1, by rw [ek.1]; exact k2, by rw [ek.2, en.2]; exact k3⟩⟩)
  · exact Or.inr (Or.inl ⟨by rw [en.1]; exact h1, Or.inr (by rw [en.1, ec]; exact h2)⟩)
  · exact Or.inr (Or.inr ⟨en.1.trans h1, fun k g1 g2 g3 q => h2 k g1 g2 (by rw [← (e k g1 (by omega)).1]; exact g3) (by rw [← (e k g1 (by omega)).2, ← en.2]; exact q)⟩)
def nmA (v v' : eW) (k a e : Int) : Prop := v' 275 94 = v 275 94 + 1 ∧ (v' 341 (v 275 94) = k ∧ v' 342 (v 275 94) = a ∧ v' 343 (v 275 94) = e) ∧ (∀ i, i ≠ v 275 94 → v' 341 i = v 341 i ∧ v' 342 i = v 342 i ∧ v' 343 i = v 343 i)
def mNmQ (c k : Int) : Prop := (341 ≤ c ∧ c ≤ 344) ∨ (c = 275 ∧ k = 94)
theorem nmA.mk {v a1 a2 a3 a4 a5 : eW} {k a e x y n : Int} (h1 : e_up v 341 n k = a1) (h2 : e_up a1 342 n a = a2) (h3 : e_up a2 343 n e = a3) (h4 : e_up a3 344 n x = a4) (h5 : e_up a4 275 94 y = a5) (hn : n = v 275 94) (hy : y = v 275 94 + 1) : nmA v a5 k a e ∧ e_fr mNmQ v a5 := by
  subst hn
  subst h1 h2 h3 h4 h5 hy
  refine ⟨⟨e_up_eq _ _ _ _, ⟨?_, ?_, ?_⟩, fun i hi => ⟨?_, ?_, ?_⟩⟩, ?_⟩
  · rw [e_up_ne _ _ (Or.inl (by decide)), e_up_ne _ _ (Or.inl (by decide)), e_up_ne _ _ (Or.inl (by decide)), e_up_ne _ _ (Or.inl (by decide)), e_up_eq]
  · rw [e_up_ne _ _ (Or.inl (by decide)), e_up_ne _ _ (Or.inl (by decide)), e_up_ne _ _ (Or.inl (by decide)), e_up_eq]
  · rw [e_up_ne _ _ (Or.inl (by decide)), e_up_ne _ _ (Or.inl (by decide)), e_up_eq]
  · rw [e_up_ne _ _ (Or.inl (by decide)), e_up_ne _ _ (Or.inl (by decide)), e_up_ne _ _ (Or.inl (by decide)), e_up_ne _ _ (Or.inl (by decide)), e_up_ne _ _ (Or.inr hi)]
  · rw [e_up_ne _ _ (Or.inl (by decide)), e_up_ne _ _ (Or.inl (by decide)), e_up_ne _ _ (Or.inl (by decide)), e_up_ne _ _ (Or.inr hi), e_up_ne _ _ (Or.inl (by decide))]
  · rw [e_up_ne _ _ (Or.inl (by decide)), e_up_ne _ _ (Or.inl (by decide)), e_up_ne _ _ (Or.inr hi), e_up_ne _ _ (Or.inl (by decide)), e_up_ne _ _ (Or.inl (by decide))]
  · exact e_fr.up (e_fr.up (e_fr.up (e_fr.up (e_fr.up (e_fr.refl v) rfl (by unfold mNmQ; omega)) rfl (by unfold mNmQ; omega)) rfl (by unfold mNmQ; omega)) rfl (by unfold mNmQ; omega)) rfl (by unfold mNmQ; omega)
/-- as mk, without the place of the code (break in no while) -/
theorem nmA.mk4 {v a1 a2 a3 a5 : eW} {k a e y n : Int} (h1 : e_up v 341 n k = a1) (h2 : e_up a1 342 n a = a2) (h3 : e_up a2 343 n e = a3) (h5 : e_up a3 275 94 y = a5) (hn : n = v 275 94) (hy : y = v 275 94 + 1) : nmA v a5 k a e ∧ e_fr mNmQ v a5 := by
  subst hn
  subst h1 h2 h3 h5 hy
  refine ⟨⟨e_up_eq _ _ _ _, ⟨?_, ?_, ?_⟩, fun i hi => ⟨?_, ?_, ?_⟩⟩, ?_⟩
  · rw [e_up_ne _ _ (Or.inl (by decide)), e_up_ne _ _ (Or.inl (by decide)), e_up_ne _ _ (Or.inl (by decide)), e_up_eq]
  · rw [e_up_ne _ _ (Or.inl (by decide)), e_up_ne _ _ (Or.inl (by decide)), e_up_eq]
  · rw [e_up_ne _ _ (Or.inl (by decide)), e_up_eq]
  · rw [e_up_ne _ _ (Or.inl (by decide)), e_up_ne _ _ (Or.inl (by decide)), e_up_ne _ _ (Or.inl (by decide)), e_up_ne _ _ (Or.inr hi)]
  · rw [e_up_ne _ _ (Or.inl (by decide)), e_up_ne _ _ (Or.inl (by decide)), e_up_ne _ _ (Or.inr hi), e_up_ne _ _ (Or.inl (by decide))]
  · rw [e_up_ne _ _ (Or.inl (by decide)), e_up_ne _ _ (Or.inr hi), e_up_ne _ _ (Or.inl (by decide)), e_up_ne _ _ (Or.inl (by decide))]
  · exact e_fr.up (e_fr.up (e_fr.up (e_fr.up (e_fr.refl v) rfl (by unfold mNmQ; omega)) rfl (by unfold mNmQ; omega)) rfl (by unfold mNmQ; omega)) rfl (by unfold mNmQ; omega)
theorem nmX.A {ka k a e : Int} {v v1 v2 : eW} (h : nmX ka v v1) (A : nmA v1 v2 k a e) (hk : ka ≤ k) : nmX ka v v2 := by
  obtain ⟨h1, h2, h3⟩ := h
  obtain ⟨A1, ⟨A2, -, -⟩, A5⟩ := A
  refine ⟨by omega, fun i hi => ?_, fun i i0 i1 => ?_⟩
  · obtain ⟨x1, x2, x3⟩ := h2 i hi
    obtain ⟨y1, y2, y3⟩ := A5 i (by omega)
    exact ⟨y1.trans x1, y2.trans x2, y3.trans x3⟩
  · by_cases q : i = v1 275 94
    · rw [q, A2]; exact hk
    · rw [(A5 i q).1]; exact h3 i i0 (by omega)
section NRA
variable {N cd B k a e : Int} {w v w' v' : eW}
theorem NR.add (h : NR N cd B w v) (ha : a = B) (hB : 0 ≤ B) (A : nmA v v' k a e) (hk : 0 ≤ k ∧ k ≤ 4) (hs : k ≠ 4 → e = wl (w 5) N a ∧ 1 ≤ e ∧ e ≤ 24) (h0 : k = 0 → ∀ i, 0 ≤ i → i < v 275 94 → v 341 i = 0) (e5 : w' 5 = w 5) (hT : NT v' (w' cd 2) (w' 1 14) (w' 6) (w' 7)) (hb : (w 1 9 = 0 ∧ ((bdK N (w 5) v' (v 275 94) ∧ w' 1 9 ≠ 0 ∧ w' 1 10 = a) ∨ (¬ bdK N (w 5) v' (v 275 94) ∧ w' 1 9 = 0))) ∨ (w 1 9 ≠ 0 ∧ w' 1 9 = w 1 9 ∧ w' 1 10 = w 1 10)) : NR N cd (B + 1) w' v' := by
  obtain ⟨⟨⟨n0, n1⟩, n2, n3, n4⟩, -, n6⟩ := h
  obtain ⟨A1, ⟨A2, A3, A4⟩, A5⟩ := A
  subst ha
  have pre : ∀ n, 0 ≤ n → n < v 275 94 → (bdK N (w 5) v' n ↔ bdK N (w 5) v n) := fun n g1 g2 => ⟨bdK.pre g1 (fun i i0 i1 => ⟨(A5 i (by omega)).1.symm, (A5 i (by omega)).2.1.symm⟩), bdK.pre g1 (fun i i0 i1 => ⟨(A5 i (by omega)).1, (A5 i (by omega)).2.1⟩)⟩
  refine ⟨⟨⟨by omega, by omega⟩, fun i j i0 i1 i2 => ?_, fun i i0 i1 => ?_, fun i j i0 i1 i2 i3 => ?_⟩, hT, ?_⟩
  · have ei := (A5 i (by omega)).2.1
    by_cases q : j = v 275 94
    · rw [q, A3, ei]
      exact (n3 i i0 (by omega)).1.2
    · rw [ei, (A5 j q).2.1]
      exact n2 i j i0 i1 (by omega)
  · by_cases q : i = v 275 94
    · unfold nmI
      rw [q, A2, A3, A4, e5]
      exact ⟨⟨hB, by omega⟩, hk, hs⟩
    · obtain ⟨q1, q2, q3⟩ := A5 i q
      have := n3 i i0 (by omega)
      unfold nmI at this ⊢
      rw [q1, q2, q3, e5]
      exact ⟨⟨this.1.1, by have := this.1.2; omega⟩, this.2⟩
  · have ei := (A5 i (by omega)).1
    by_cases q : j = v 275 94
    · rw [q, A2] at i3
      rw [ei]
      exact h0 i3 i i0 (by omega)
    · rw [(A5 j q).1] at i3
      rw [ei]
      exact n4 i j i0 i1 (by omega) i3
  · unfold senQ
    rw [e5, A1]
    rcases hb with ⟨s0, hb⟩ | ⟨s1, s2, s3⟩
    · have all : ∀ n, 0 ≤ n → n < v 275 94 → ¬ bdK N (w 5) v' n := by
        rcases n6 with ⟨-, q⟩ | ⟨q, -⟩
        · exact fun n g1 g2 b => q n g1 g2 ((pre n g1 g2).mp b)
        · exact absurd s0 q
      rcases hb with ⟨b1, b2, b3⟩ | ⟨b1, b2⟩
      · exact Or.inr ⟨b2, v 275 94, ⟨n0, by omega⟩, b1, all, by rw [b3, A3]⟩
      · refine Or.inl ⟨b2, fun n g1 g2 => ?_⟩
        by_cases q : n = v 275 94
        · rw [q]; exact b1
        · exact all n g1 (by omega)
    · rcases n6 with ⟨q, -⟩ | ⟨-, b, b1, b2, b3, b4⟩
      · exact absurd q s1
      · exact Or.inr ⟨by rw [s2]; exact s1, b, ⟨b1.1, by omega⟩, (pre b b1.1 b1.2).mpr b2, fun n g1 g2 => fun q => b3 n g1 g2 ((pre n g1 (by omega)).mp q), by rw [s3, b4, (A5 b (by omega)).2.1]⟩
theorem NT.add2 {x y : Int} {f g : Int → Int} (h : NT v x y f g) (h0 : 0 ≤ v 275 94) (A : nmA v v' k a e) (hk : 2 ≤ k) : NT v' x y f g := by
  obtain ⟨A1, ⟨A2, -, -⟩, A5⟩ := A
  have ec : ∀ q i, 0 ≤ i → i ≤ v 275 94 → cntK v' q i = cntK v q i := fun q i i0 i1 => cnt_pr i0 (fun m g1 g2 => (A5 m (by omega)).1)
  have en : ∀ q, q < 2 → cntK v' q (v' 275 94) = cntK v q (v 275 94) := fun q hq => by rw [A1, cntK_no h0 (by omega), ec q _ h0 (Int.le_refl _)]
  obtain ⟨⟨h1, h2⟩, h3, h4⟩ := h
  refine ⟨⟨by rw [en 0 (by decide)]; exact h1, fun i i0 i1 i2 i3 => ?_⟩, by rw [en 1 (by decide)]; exact h3, fun i i0 i1 i2 i3 => ?_⟩
  · have q : i ≠ v 275 94 := fun q => by rw [q, A2] at i2; omega
    rw [ec 0 i i0 (by omega)] at i3 ⊢
    rw [(A5 i q).2.1]
    exact h2 i i0 (by omega) (by rw [← (A5 i q).1]; exact i2) i3
  · have q : i ≠ v 275 94 := fun q => by rw [q, A2] at i2; omega
    rw [ec 1 i i0 (by omega)] at i3 ⊢
    rw [(A5 i q).2.1]
    exact h4 i i0 (by omega) (by rw [← (A5 i q).1]; exact i2) i3
/-- a complaint at the token, behind all others -/
theorem NR.cpl {n x : Int} (h : NR N cd B w v) (hx : B ≤ x) (hc : cplQ w w' n x) (hn : n ≠ 0) : (∀ c i, ¬ (c = 1 ∧ (i = 9 ∨ i = 10)) → w' c i = w c i) ∧ ((w 1 9 = 0 ∧ w' 1 9 ≠ 0 ∧ w' 1 10 = x) ∨ (w 1 9 ≠ 0 ∧ w' 1 9 = w 1 9 ∧ w' 1 10 = w 1 10)) := by
  obtain ⟨⟨-, -, n3, -⟩, -, n6⟩ := h
  rcases hc with ⟨c1, c2⟩ | ⟨c1, c2, c3⟩
  · subst c2
    refine ⟨fun c i hq => ?_, ?_⟩
    · rw [e_up_ne _ _ (by by_cases e : c = 1; exact Or.inr (by omega); exact Or.inl e), e_up_ne _ _ (by by_cases e : c = 1; exact Or.inr (by omega); exact Or.inl e)]
    · rcases n6 with ⟨s, -⟩ | ⟨s, b, b1, -, -, b4⟩
      · refine Or.inl ⟨s, ?_, e_up_eq _ _ _ _⟩
        rw [e_up_ne _ _ (Or.inr (by decide)), e_up_eq]
        exact hn
      · exfalso
        have := (n3 b b1.1 b1.2).1.2
        omega
  · subst c3
    exact ⟨fun _ _ _ => rfl, Or.inr ⟨c1, rfl, rfl⟩⟩
/-- while no name is at fault, the class's table has all variables -/
theorem NR.vars (h : NR N cd B w v) (hs : w 1 9 = 0) : w cd 2 = cntK v 0 (v 275 94) ∧ (∀ i, 0 ≤ i → i < v 275 94 → v 341 i = 0 → 0 ≤ cntK v 0 i ∧ cntK v 0 i < w cd 2 ∧ w 6 (cntK v 0 i) = v 342 i) ∧ (∀ j, 0 ≤ j → j < w cd 2 → ∃ i, (0 ≤ i ∧ i < v 275 94) ∧ v 341 i = 0 ∧ w 6 j = v 342 i) := by
  obtain ⟨⟨⟨n0, -⟩, -, -, -⟩, ⟨⟨t1, t2⟩, -⟩, n6⟩ := h
  have all : ∀ n, 0 ≤ n → n < v 275 94 → ¬ bdK N (w 5) v n := by
    rcases n6 with ⟨-, q⟩ | ⟨q, -⟩
    · exact q
    · exact absurd hs q
  have en : ((v 275 94).toNat : Int) = v 275 94 := by omega
  have le : cntK v 0 (v 275 94) ≤ 32 := by
    by_cases g : cntK v 0 (v 275 94) ≤ 32
    · exact g
    · exfalso
      obtain ⟨i, i1, i2, i3⟩ := cnt_ex (v := v) (k := 0) (c := 32) (by decide) (v 275 94).toNat (by rw [en]; omega)
      rw [en] at i1
      exact all i i1.1 i1.2 (Or.inr (Or.inl ⟨Or.inl i2, Or.inr (by rw [i2, i3]; decide)⟩))
  have ex : w cd 2 = cntK v 0 (v 275 94) := by unfold minB at t1; omega
  refine ⟨ex, fun i i0 i1 i2 => ?_, fun j j0 j1 => ?_⟩
  · have a := cntK_nn v 0 i
    have b := cntK_lt i0 i1 i2
    exact ⟨a, by omega, t2 i i0 i1 i2 (by omega)⟩
  · obtain ⟨i, i1, i2, i3⟩ := cnt_ex (v := v) (k := 0) (c := j) j0 (v 275 94).toNat (by rw [en]; omega)
    rw [en] at i1
    exact ⟨i, i1, i2, by rw [← i3]; exact t2 i i1.1 i1.2 i2 (by omega)⟩
end NRA
section STU
variable {N cd s o b pz l m t ka : Int} {w v w1 v1 w2 v2 : eW}
def kGs (cd c k : Int) : Prop := (c = 1 ∧ 11 ≤ k ∧ k ≤ 13) ∨ c = cd + 1
def mGs (c k : Int) : Prop := (328 ≤ c ∧ c ≤ 336) ∨ c = 344 ∨ (c = 275 ∧ 78 ≤ k ∧ k ≤ 83)
/-- writes beside names, tokens and rows -/
theorem st.gen {o' l' m' t' ka b' : Int} (h : st N cd w v w1 v1 s o b pz l m t ka) (f : e_fr (kGs cd) w1 w2) (g : e_fr mGs v1 v2) (h11 : w2 1 11 = w 1 11 + o' ∧ v2 275 83 = v 275 83 + o') (h13 : w2 1 13 = l' ∧ v2 275 82 = m' ∧ w2 1 12 = t') (h80 : 0 ≤ v2 275 80 ∧ v2 275 80 ≤ w1 1 6 + b') (hb : b ≤ b') : st N cd w v w2 v2 s o' b' pz l' m' t' ka := by
  obtain ⟨a1, a2, a3, a4, a5, a6, a7, a8⟩ := h
  have n := a1.2.2.2.1.1.m
  have F : ∀ c k, ¬ ((c = 1 ∧ 11 ≤ k ∧ k ≤ 13) ∨ c = cd + 1) → w2 c k = w1 c k := f
  have e0 : w2 cd 0 = w1 cd 0 := F _ _ (by omega)
  have e6 : w2 1 6 = w1 1 6 := F _ _ (by omega)
  have er : w2 (cd + 2) = w1 (cd + 2) := funext (fun i => F _ _ (by omega))
  have ew : nwE cd w1 w2 := ⟨funext (fun i => F _ _ (by omega)), funext (fun i => F _ _ (by omega)), funext (fun i => F _ _ (by omega)), F _ _ (by omega), F _ _ (by omega), F _ _ (by omega), F _ _ (by omega)⟩
  have ev := nmE.of g (fun i => by unfold mGs; omega) (by unfold mGs; omega)
  refine ⟨a1.fr f g (fun c k q => by unfold kGs at q; unfold kNtk; omega) (fun k q => by unfold kGs at q; omega) (fun k q => by unfold kGs at q; omega) (fun c k q => by unfold mGs at q; unfold mNtk; omega) (fun k q => by unfold mGs at q; omega) (by rw [e0]; exact a1.2.2.2.2.2.1) h80, ?_, a3.fr e0 er ev, h11, h13, by omega, fun q i hi => by rw [er]; exact a7 (by omega) i hi, a8.E ev⟩
  rw [e6]
  exact (a2.fr ew ev).wider (by omega)
theorem nmA.st (h : st N cd w v w1 v1 s o 0 pz l m t ka) {k a e : Int} (A : nmA v1 v2 k a e) (g : e_fr mNmQ v1 v2) (f : e_fr kRc w1 w2) (hk3 : k ≠ 3) (hka : ka ≤ k) (hN : NR N cd (w1 1 6 + 1) w2 v2) : st N cd w v w2 v2 s o 1 pz l m t ka := by
  obtain ⟨a1, a2, a3, a4, a5, a6, a7, a8⟩ := h
  have n := a1.2.2.2.1.1.m
  have F : ∀ c k, ¬ (c = 1 ∧ (k = 9 ∨ k = 10)) → w2 c k = w1 c k := f
  have G : ∀ c k, ¬ ((341 ≤ c ∧ c ≤ 344) ∨ (c = 275 ∧ k = 94)) → v2 c k = v1 c k := g
  have e0 : w2 cd 0 = w1 cd 0 := F _ _ (by omega)
  have e6 : w2 1 6 = w1 1 6 := F _ _ (by omega)
  have er : w2 (cd + 2) = w1 (cd + 2) := funext (fun i => F _ _ (by omega))
  have e80 : v2 275 80 = v1 275 80 := G _ _ (by omega)
  have h80 := a1.2.2.2.2.2.2
  have n0 := a2.1.1.1
  have A' := A
  obtain ⟨A1, ⟨A2, A3, -⟩, A5⟩ := A
  refine ⟨a1.fr f g (fun c k q => by unfold kRc at q; unfold kNtk; omega) (fun k q => by unfold kRc at q; omega) (fun k q => by unfold kRc at q; omega) (fun c k q => by unfold mNmQ at q; unfold mNtk; omega) (fun k q => by unfold mNmQ at q; omega) (by rw [e0]; exact a1.2.2.2.2.2.1) (by omega), by rw [e6]; exact hN, fun q z => ?_, ⟨(F 1 11 (by omega)).trans a4.1, (G 275 83 (by omega)).trans a4.2⟩, ⟨(F 1 13 (by omega)).trans a5.1, (G 275 82 (by omega)).trans a5.2.1, (F 1 12 (by omega)).trans a5.2.2⟩, by omega, fun q i hi => by rw [er]; exact a7 (by omega) i hi, a8.A A' hka⟩
  rw [e0] at q ⊢
  rw [er, a3 q z]
  constructor
  · rintro ⟨i, i1, i2, i3⟩
    exact ⟨i, ⟨i1.1, by omega⟩, by rw [(A5 i (by omega)).1]; exact i2, by rw [(A5 i (by omega)).2.1]; exact i3⟩
  · rintro ⟨i, i1, i2, i3⟩
    have q2 : i ≠ v1 275 94 := fun e => by rw [e, A2] at i2; exact hk3 i2
    exact ⟨i, ⟨i1.1, by omega⟩, by rw [← (A5 i q2).1]; exact i2, by rw [← (A5 i q2).2.1]; exact i3⟩
/-- the word at the token -/
theorem Rk.word {b : Int} (h : Rk N cd b w1 v1) (hk : w1 1 5 = 1) : v1 275 86 = w1 1 6 ∧ v1 275 87 - v1 275 86 = wl (w1 5) N (w1 1 6) ∧ 1 ≤ wl (w1 5) N (w1 1 6) ∧ wl (w1 5) N (w1 1 6) ≤ 24 ∧ 0 ≤ w1 1 6 ∧ w1 1 6 ≤ 4000 := by
  obtain ⟨a1, a2, ⟨t1, t2⟩, -⟩ := h
  have e := t2 (Or.inl hk)
  have k := a2.2.1
  have n := a1.1
  unfold wl
  omega
theorem NR.names {B : Int} (h : NR N cd B w v) (hB : B ≤ 4000) : nmOk (w 5) N (w 6) (w cd 2) ∧ nmOk (w 5) N (w 7) (w 1 14) := by
  obtain ⟨⟨⟨n0, -⟩, -, n3, -⟩, ⟨⟨t1, t2⟩, t3, t4⟩, -⟩ := h
  have en : ((v 275 94).toNat : Int) = v 275 94 := by omega
  have pick : ∀ i, 0 ≤ i → i < v 275 94 → v 341 i ≠ 4 → 0 ≤ v 342 i ∧ v 342 i ≤ 4000 ∧ wl (w 5) N (v 342 i) ≤ 24 := fun i i0 i1 i2 => by
    obtain ⟨p1, p2, p3⟩ := n3 i i0 i1
    have := p3 i2
    omega
  constructor
  · intro j j0 j1
    obtain ⟨i, i1, i2, i3⟩ := cnt_ex (v := v) (k := 0) (c := j) j0 (v 275 94).toNat (by rw [en]; unfold minB at t1; omega)
    rw [en] at i1
    rw [show w 6 j = v 342 i by rw [← i3]; exact t2 i i1.1 i1.2 i2 (by unfold minB at t1; omega)]
    exact pick i i1.1 i1.2 (by omega)
  · intro j j0 j1
    obtain ⟨i, i1, i2, i3⟩ := cnt_ex (v := v) (k := 1) (c := j) j0 (v 275 94).toNat (by rw [en]; unfold minB at t3; omega)
    rw [en] at i1
    rw [show w 7 j = v 342 i by rw [← i3]; exact t4 i i1.1 i1.2 i2 (by unfold minB at t3; omega)]
    exact pick i i1.1 i1.2 (by omega)
/-- a variable that is read or set -/
theorem st.use {z' : Int} (hka : ka ≤ 2) (h : st N cd w v w1 v1 s o 0 pz l m t ka) (hk : w1 1 5 = 1) (hf : fndQ (w1 5) N (w1 6) (w1 cd 2) (w1 1 6) z') (hc : (z' = -1 ∧ cplQ w1 w2 5 (w1 1 6)) ∨ (0 ≤ z' ∧ w1 = w2)) {a e : Int} (A : nmA v1 v2 2 a e) (ha : a = v1 275 86) (he : e = v1 275 87 - v1 275 86) (g : e_fr mNmQ v1 v2) : st N cd w v w2 v2 s o 1 pz l m t ka := by
  obtain ⟨u1, u2, u3, u4, u5, u6⟩ := h.1.word hk
  have hN := h.2.1
  rw [show w1 1 6 + 0 = w1 1 6 by omega] at hN
  have n0 := hN.1.1.1
  have hb : bdK N (w1 5) v2 (v1 275 94) ↔ ∀ k, 0 ≤ k → k < v1 275 94 → v1 341 k = 0 → ¬ snm (w1 5) N (v1 342 k) (w1 1 6) := by
    obtain ⟨A1, ⟨A2, A3, -⟩, A5⟩ := A
    constructor
    · rintro (q | ⟨q, -⟩ | ⟨-, q⟩)
      · omega
      · omega
      · intro k k0 k1 k2 k3
        refine q k k0 k1 (by rw [(A5 k (by omega)).1]; exact k2) ?_
        rw [(A5 k (by omega)).2.1, A3, ha, u1]
        exact k3
    · intro q
      refine Or.inr (Or.inr ⟨A2, fun k k0 k1 k2 k3 => ?_⟩)
      rw [(A5 k (by omega)).1] at k2
      rw [(A5 k (by omega)).2.1, A3, ha, u1] at k3
      exact q k k0 k1 k2 k3
  have fin : ((∀ c i, ¬ (c = 1 ∧ (i = 9 ∨ i = 10)) → w2 c i = w1 c i)) ∧ ((w1 1 9 = 0 ∧ ((bdK N (w1 5) v2 (v1 275 94) ∧ w2 1 9 ≠ 0 ∧ w2 1 10 = a) ∨ (¬ bdK N (w1 5) v2 (v1 275 94) ∧ w2 1 9 = 0))) ∨ (w1 1 9 ≠ 0 ∧ w2 1 9 = w1 1 9 ∧ w2 1 10 = w1 1 10)) := by
    rcases hc with ⟨c1, c2⟩ | ⟨c1, c2⟩
    · obtain ⟨p1, p2⟩ := hN.cpl (Int.le_refl _) c2 (by decide)
      refine ⟨p1, ?_⟩
      rcases p2 with ⟨p2, p3, p4⟩ | p2
      · refine Or.inl ⟨p2, Or.inl ⟨hb.mpr (fun k k0 k1 k2 k3 => ?_), p3, by omega⟩⟩
        obtain ⟨-, x2, -⟩ := hN.vars p2
        obtain ⟨y1, y2, y3⟩ := x2 k k0 k1 k2
        rcases hf with ⟨-, hf⟩ | ⟨hf, -⟩
        · exact hf _ y1 y2 (by rw [y3]; exact k3)
        · omega
      · exact Or.inr p2
    · subst c2
      refine ⟨fun _ _ _ => rfl, ?_⟩
      by_cases s0 : w1 1 9 = 0
      · refine Or.inl ⟨s0, Or.inr ⟨fun q => ?_, s0⟩⟩
        rcases hf with ⟨hf, -⟩ | ⟨f1, f2, f3, -⟩
        · omega
        · obtain ⟨-, -, x3⟩ := hN.vars s0
          obtain ⟨i, i1, i2, i3⟩ := x3 z' f1 f2
          exact hb.mp q i i1.1 i1.2 i2 (by rw [← i3]; exact f3)
      · exact Or.inr ⟨s0, rfl, rfl⟩
  obtain ⟨F, fin⟩ := fin
  have n := h.1.2.2.2.1.1.m
  refine nmA.st h A g (fun c k q => F c k q) (by decide) (by omega) ?_
  refine NR.add hN (by omega) u5 A (by decide) (fun _ => ⟨by rw [he, u2, ha, u1], by omega, by omega⟩) (fun q => absurd q (by decide)) (funext (fun i => F _ _ (by omega))) ?_ fin
  rw [F cd 2 (by omega), F 1 14 (by omega), show w2 6 = w1 6 from funext (fun i => F _ _ (by omega)), show w2 7 = w1 7 from funext (fun i => F _ _ (by omega))]
  exact hN.2.1.add2 n0 A (by decide)
/-- a break in no while -/
theorem st.brk (hka : ka ≤ 2) (h : st N cd w v w1 v1 s o 0 pz l m t ka) (hc : cplQ w1 w2 6 (w1 1 6)) {a e : Int} (A : nmA v1 v2 4 a e) (ha : a = v1 275 86) (g : e_fr mNmQ v1 v2) : st N cd w v w2 v2 s o 1 pz l m t ka := by
  have hN := h.2.1
  rw [show w1 1 6 + 0 = w1 1 6 by omega] at hN
  have k := h.1.2.1.2.1
  have n := h.1.2.2.2.1.1.m
  obtain ⟨F, p2⟩ := hN.cpl (Int.le_refl _) hc (by decide)
  refine nmA.st h A g (fun c k q => F c k q) (by decide) (by omega) ?_
  refine NR.add hN (by omega) (by omega) A (by decide) (fun q => absurd rfl q) (fun q => absurd q (by decide)) (funext (fun i => F _ _ (by omega))) ?_ ?_
  · rw [F cd 2 (by omega), F 1 14 (by omega), show w2 6 = w1 6 from funext (fun i => F _ _ (by omega)), show w2 7 = w1 7 from funext (fun i => F _ _ (by omega))]
    exact hN.2.1.add2 hN.1.1.1 A (by decide)
  · rcases p2 with ⟨p2, p3, p4⟩ | p2
    · exact Or.inl ⟨p2, Or.inl ⟨Or.inl A.2.1.1, p3, by omega⟩⟩
    · exact Or.inr p2
/-- a routine's name that is used: its row comes later -/
theorem st.rec3 (hka : ka ≤ 2) (h : st N cd w v w1 v1 s o 0 (-1) l m t ka) (hk : w1 1 5 = 1) {a e : Int} (A : nmA v1 v2 3 a e) (ha : a = v1 275 86) (he : e = v1 275 87 - v1 275 86) (g : e_fr mNmQ v1 v2) : st N cd w v w1 v2 s o 1 (w1 1 6) l m t ka := by
  obtain ⟨u1, u2, u3, u4, u5, u6⟩ := h.1.word hk
  have hN := h.2.1
  rw [show w1 1 6 + 0 = w1 1 6 by omega] at hN
  have n0 := hN.1.1.1
  have nb : ¬ bdK N (w1 5) v2 (v1 275 94) := by
    have A2 := A.2.1.1
    rintro (q | ⟨q, -⟩ | ⟨q, -⟩) <;> omega
  have hNR : NR N cd (w1 1 6 + 1) w1 v2 := by
    refine NR.add hN (by omega) u5 A (by decide) (fun _ => ⟨by rw [he, u2, ha, u1], by omega, by omega⟩) (fun q => absurd q (by decide)) rfl (hN.2.1.add2 n0 A (by decide)) ?_
    by_cases s0 : w1 1 9 = 0
    · exact Or.inl ⟨s0, Or.inr ⟨nb, s0⟩⟩
    · exact Or.inr ⟨s0, rfl, rfl⟩
  obtain ⟨a1, a2, a3, a4, a5, a6, a7, a8⟩ := h
  have G : ∀ c k, ¬ ((341 ≤ c ∧ c ≤ 344) ∨ (c = 275 ∧ k = 94)) → v2 c k = v1 c k := g
  have e80 : v2 275 80 = v1 275 80 := G _ _ (by omega)
  have h80 := a1.2.2.2.2.2.2
  have A' := A
  obtain ⟨A1, ⟨A2, A3, -⟩, A5⟩ := A
  refine ⟨a1.fr (S := fun _ _ => False) (fun _ _ _ => rfl) g (fun _ _ q => q.elim) (fun _ q => q.elim) (fun _ q => q.elim) (fun c k q => by unfold mNmQ at q; unfold mNtk; omega) (fun k q => by unfold mNmQ at q; omega) a1.2.2.2.2.2.1 (by omega), hNR, fun q z => ?_, ⟨a4.1, (G 275 83 (by omega)).trans a4.2⟩, ⟨a5.1, (G 275 82 (by omega)).trans a5.2.1, a5.2.2⟩, a6, a7, a8.A A' (by omega)⟩
  have c := a3 q z
  constructor
  · rintro (i | i)
    · obtain ⟨j, j1, j2, j3⟩ := c.mp (Or.inl i)
      exact ⟨j, ⟨j1.1, by omega⟩, by rw [(A5 j (by omega)).1]; exact j2, by rw [(A5 j (by omega)).2.1]; exact j3⟩
    · exact ⟨v1 275 94, ⟨n0, by omega⟩, A2, by omega⟩
  · rintro ⟨j, j1, j2, j3⟩
    by_cases q2 : j = v1 275 94
    · rw [q2, A3] at j3
      exact Or.inr ⟨by omega, by omega⟩
    · rcases c.mpr ⟨j, ⟨j1.1, by omega⟩, by rw [← (A5 j q2).1]; exact j2, by rw [← (A5 j q2).2.1]; exact j3⟩ with i | i
      · exact Or.inl i
      · omega
end STU
end
