noncomputable section
/-! the first fault of names lies at the same place on both sides -/
section CMP
variable {N cd B : Int} {w v v' : eW}
theorem wl_le {T : Int → Int} (n : Nat) : ∀ p, (N - p).toNat = n → p ≤ N → p + wl T N p ≤ N := by
  induction n with
  | zero =>
    intro p hp h0
    by_cases h : nmB (byT T N p)
    · have := (nmB_in h).1; omega
    · rw [wl_no h]; omega
  | succ n ih =>
    intro p hp h0
    by_cases h : nmB (byT T N p)
    · have := (nmB_in h).1
      have := ih (p + 1) (by omega) (by omega)
      rw [wl_yes h]; omega
    · rw [wl_no h]; omega
theorem wl_in {T : Int → Int} {p : Int} (h : 1 ≤ wl T N p) : p + wl T N p ≤ N := by
  by_cases g : nmB (byT T N p)
  · exact wl_le _ p rfl (by have := (nmB_in g).1; omega)
  · rw [wl_no g] at h; omega
theorem snM_eq (hA : rpA N w v) (hN : NR N cd B w v) {i j : Int} (i0 : 0 ≤ i ∧ i < v 275 94) (j0 : 0 ≤ j ∧ j < v 275 94) (ki : v 341 i ≠ 4) (kj : v 341 j ≠ 4) : snM v i j ↔ snm (w 5) N (v 342 i) (v 342 j) := by
  obtain ⟨-, a4, -, -, -, a8⟩ := hA
  obtain ⟨x1, -, x3⟩ := hN.1.2.2.1 i i0.1 i0.2
  obtain ⟨y1, -, y3⟩ := hN.1.2.2.1 j j0.1 j0.2
  have ex := x3 ki
  have ey := y3 kj
  have lx := wl_in (T := w 5) (N := N) (p := v 342 i) (by omega)
  have ly := wl_in (T := w 5) (N := N) (p := v 342 j) (by omega)
  have key : ∀ k, 0 ≤ k → k < v 343 i → v 343 i = v 343 j → (v 281 (v 342 i + k) = v 281 (v 342 j + k) ↔ byT (w 5) N (v 342 i + k) = byT (w 5) N (v 342 j + k)) := by
    intro k k0 k1 k2
    unfold byT
    rw [if_pos (by omega), if_pos (by omega), a4 _ (by omega) (by omega), a4 _ (by omega) (by omega)]
    have p1 := e_Has.get a8 (c := 281) (k := v 342 i + k) (lo := -128) (hi := 127) rfl (by decide)
    have p2 := e_Has.get a8 (c := 281) (k := v 342 j + k) (lo := -128) (hi := 127) rfl (by decide)
    constructor <;> intro q <;> omega
  constructor
  · intro h
    exact ⟨by have := h.1; omega, fun k k0 k1 => (key k k0 (by omega) h.1).mp (h.2 k k0 (by omega))⟩
  · intro h
    have e : v 343 i = v 343 j := by have := h.1; omega
    exact ⟨e, fun k k0 k1 => (key k k0 k1 e).mpr (h.2 k k0 (by omega))⟩
theorem bdM_eq (hA : rpA N w v) (hN : NR N cd B w v) {n : Int} (n0 : 0 ≤ n ∧ n < v 275 94) (h3 : v 341 n ≠ 3) : bdM v (v 275 94) n ↔ bdK N (w 5) v n := by
  constructor
  · rintro (h | ⟨h1, ⟨k, k1, k2, k3⟩ | h2⟩ | ⟨h1, h2⟩)
    · exact Or.inl h
    · exact Or.inr (Or.inl ⟨h1, Or.inl ⟨k, k1, k2, (snM_eq hA hN ⟨k1.1, by omega⟩ n0 (by omega) (by omega)).mp k3⟩⟩)
    · exact Or.inr (Or.inl ⟨h1, Or.inr h2⟩)
    · have e : v 341 n = 2 := by omega
      refine Or.inr (Or.inr ⟨e, fun k k0 k1 k2 k3 => ?_⟩)
      exact h2 k k0 (by omega) (by omega) ((snM_eq hA hN ⟨k0, by omega⟩ n0 (by omega) (by omega)).mpr k3)
  · rintro (h | ⟨h1, ⟨k, k1, k2, k3⟩ | h2⟩ | ⟨h1, h2⟩)
    · exact Or.inl h
    · exact Or.inr (Or.inl ⟨h1, Or.inl ⟨k, k1, k2, (snM_eq hA hN ⟨k1.1, by omega⟩ n0 (by omega) (by omega)).mpr k3⟩⟩)
    · exact Or.inr (Or.inl ⟨h1, Or.inr h2⟩)
    · refine Or.inr (Or.inr ⟨Or.inl h1, fun k k0 k1 k2 k3 => ?_⟩)
      have lt : k < n := by
        by_cases q : n < k
        · have := hN.1.2.2.2 n k n0.1 q k1 (by omega)
          omega
        · by_cases e : k = n
          · subst e; omega
          · omega
      exact h2 k k0 lt (by omega) ((snM_eq hA hN ⟨k0, k1⟩ n0 (by omega) (by omega)).mp k3)
/-- a routine's name that is used and was not told -/
theorem bdM_3 (hA : rpA N w v) (hN : NR N cd B w v) (h5 : cn1 v ≤ 500) {n : Int} (n0 : 0 ≤ n ∧ n < v 275 94) (h3 : v 341 n = 3) : bdM v (v 275 94) n ↔ ∀ j, 0 ≤ j → j < w 1 14 → ¬ snm (w 5) N (w 7 j) (v 342 n) := by
  have t := hN.2.1.2
  have en : ((v 275 94).toNat : Int) = v 275 94 := by omega
  have e14 : w 1 14 = cntK v 1 (v 275 94) := by
    have t1 := t.1
    unfold cn1 at h5
    unfold minB at t1
    omega
  constructor
  · rintro (h | ⟨h, -⟩ | ⟨-, h⟩)
    · omega
    · omega
    · intro j j0 j1 s
      obtain ⟨i, i1, i2, i3⟩ := cnt_ex (v := v) (k := 1) (c := j) j0 (v 275 94).toNat (by rw [en]; omega)
      rw [en] at i1
      have e := t.2 i i1.1 i1.2 i2 (by unfold cn1 at h5; omega)
      rw [i3] at e
      rw [e] at s
      exact h i i1.1 i1.2 (by omega) ((snM_eq hA hN i1 n0 (by omega) (by omega)).mpr s)
  · intro h
    refine Or.inr (Or.inr ⟨Or.inr h3, fun k k0 k1 k2 k3 => ?_⟩)
    have k4 : v 341 k = 1 := by omega
    have a := cntK_nn v 1 k
    have b := cntK_lt k0 k1 k4
    have e := t.2 k k0 k1 k4 (by unfold cn1 at h5; omega)
    exact h _ a (by omega) (by rw [e]; exact (snM_eq hA hN ⟨k0, k1⟩ n0 (by omega) (by omega)).mp k3)
theorem misC_eq (hA : rpA N w v) (hN : NR N cd B w v) (hC : CN cd (-1) w v) (hL : w cd 0 < 4000) (h5 : cn1 v ≤ 500) (x : Int) : misC w cd N (w cd 0) x ↔ ∃ n, (0 ≤ n ∧ n < v 275 94) ∧ v 341 n = 3 ∧ v 342 n = x ∧ bdM v (v 275 94) n := by
  constructor
  · rintro ⟨i, i1, i2, i3, i4⟩
    obtain ⟨n, n1, n2, n3⟩ := (hC hL x).mp (Or.inl ⟨i, i1, i2, i3⟩)
    exact ⟨n, n1, n2, n3, (bdM_3 hA hN h5 n1 n2).mpr (by rw [n3]; exact i4)⟩
  · rintro ⟨n, n1, n2, n3, n4⟩
    have n5 := (bdM_3 hA hN h5 n1 n2).mp n4
    rw [n3] at n5
    rcases (hC hL x).mpr ⟨n, n1, n2, n3⟩ with ⟨i, i1, i2, i3⟩ | i
    · exact ⟨i, i1, i2, i3, n5⟩
    · omega
theorem cmpN (hA : rpA N w v) (hN : NR N cd B w v) (hC : CN cd (-1) w v) (hL : w cd 0 < 4000) (h5 : cn1 v ≤ 500) {s p : Int} (hJ : senJ w cd N (w cd 0) s p) (hR : rsJ v v' (v 275 94) (v 275 94)) : (s = 0 ∧ v' 275 88 = 0 ∧ v' 338 4 = cn1 v ∧ cn1 v ≤ 32) ∨ (s ≠ 0 ∧ v' 275 88 ≠ 0 ∧ p = v' 275 89) := by
  have mo := hN.1.2.1
  have sen := hN.2.2
  rcases hR with ⟨r1, r2, r3⟩ | ⟨r1, b, b1, b2, b3, b4⟩
  · -- the model finds none
    have nk : ∀ n, 0 ≤ n → n < v 275 94 → ¬ bdK N (w 5) v n := fun n n0 n1 q => by
      by_cases h3 : v 341 n = 3
      · rcases q with q | ⟨q, -⟩ | ⟨q, -⟩ <;> omega
      · exact r2 n n0 n1 ((bdM_eq hA hN ⟨n0, n1⟩ h3).mpr q)
    have s9 : w 1 9 = 0 := by
      rcases sen with ⟨q, -⟩ | ⟨-, c, c1, c2, -⟩
      · exact q
      · exact absurd c2 (nk c c1.1 c1.2)
    have nm : ∀ x, ¬ misC w cd N (w cd 0) x := fun x q => by
      obtain ⟨n, n1, -, -, n4⟩ := (misC_eq hA hN hC hL h5 x).mp q
      exact r2 n n1.1 n1.2 n4
    rcases hJ with ⟨q, -, -⟩ | ⟨-, q, -⟩
    · refine Or.inl ⟨q, r1, ?_, ?_⟩
      · unfold cn1; omega
      · unfold cn1; omega
    · rcases q with ⟨q, -⟩ | q
      · exact absurd s9 q
      · exact absurd q (nm p)
  · -- the model's first fault
    refine Or.inr ?_
    have le : ∀ n, 0 ≤ n → n < v 275 94 → bdM v (v 275 94) n → v 342 b ≤ v 342 n := fun n n0 n1 q => by
      by_cases e : n < b
      · exact absurd q (b3 n n0 e)
      · by_cases e2 : n = b
        · rw [e2]; exact Int.le_refl _
        · have := mo b n b1.1 (by omega) n1; omega
    by_cases h3 : v 341 b = 3
    · have me := (misC_eq hA hN hC hL h5 (v 342 b)).mpr ⟨b, b1, h3, rfl, b2⟩
      rcases hJ with ⟨-, -, q⟩ | ⟨q1, q2, q3, q4⟩
      · exact absurd me (q _)
      · refine ⟨q1, r1, ?_⟩
        have u := q4 _ me
        have l : v 342 b ≤ p := by
          rcases q2 with ⟨g1, g2⟩ | g
          · rcases sen with ⟨c, -⟩ | ⟨-, c, c1, c2, -, c4⟩
            · exact absurd c g1
            · rw [g2, c4]
              refine le c c1.1 c1.2 ((bdM_eq hA hN c1 ?_).mpr c2)
              intro e
              rcases c2 with c2 | ⟨c2, -⟩ | ⟨c2, -⟩ <;> omega
          · obtain ⟨n, n1, -, n3, n4⟩ := (misC_eq hA hN hC hL h5 p).mp g
            rw [← n3]; exact le n n1.1 n1.2 n4
        omega
    · have bk := (bdM_eq hA hN b1 h3).mp b2
      have s9 : w 1 9 ≠ 0 ∧ w 1 10 = v 342 b := by
        rcases sen with ⟨-, q⟩ | ⟨q, c, c1, c2, c3, c4⟩
        · exact absurd bk (q b b1.1 b1.2)
        · refine ⟨q, ?_⟩
          have e : c = b := by
            by_cases g : c < b
            · exfalso
              refine b3 c c1.1 g ((bdM_eq hA hN c1 ?_).mpr c2)
              intro e
              rcases c2 with c2 | ⟨c2, -⟩ | ⟨c2, -⟩ <;> omega
            · by_cases g2 : b < c
              · exact absurd bk (c3 b b1.1 g2)
              · omega
          rw [c4, e]
      rcases hJ with ⟨-, q, -⟩ | ⟨q1, q2, q3, q4⟩
      · exact absurd q s9.1
      · refine ⟨q1, r1, ?_⟩
        have u := q3 s9.1
        have l : v 342 b ≤ p := by
          rcases q2 with ⟨g1, g2⟩ | g
          · omega
          · obtain ⟨n, n1, -, n3, n4⟩ := (misC_eq hA hN hC hL h5 p).mp g
            rw [← n3]; exact le n n1.1 n1.2 n4
        omega
end CMP
end
