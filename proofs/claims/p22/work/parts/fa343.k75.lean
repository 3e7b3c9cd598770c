noncomputable section
/-! what lies on the tape -/
def fsh (x s : Int) : Int := (Int32.ofInt x >>> (Int32.ofInt s &&& 31)).toInt
def fb (x s : Int) : Int := Int.bmod (Int.bmod (fsh x s) 256) 256
theorem fb_r (x s : Int) : kn1 (fb x s) := by
  have := e_b8 (Int.bmod (fsh x s) 256)
  unfold fb kn1
  omega
/-- four bytes of a number behind the first l bytes -/
def wrdQ (T T' : Int → Int) (l x : Int) : Prop := (∀ i, i < l → T' i = T i) ∧ T' l = fb x 24 ∧ T' (l + 1) = fb x 16 ∧ T' (l + 2) = fb x 8 ∧ T' (l + 3) = fb x 0
/-- twenty bytes -/
def fdQ (T T' : Int → Int) (l a b c e g : Int) : Prop := ∃ T1 T2 T3 T4, wrdQ T T1 l a ∧ wrdQ T1 T2 (l + 4) b ∧ wrdQ T2 T3 (l + 8) c ∧ wrdQ T3 T4 (l + 12) e ∧ wrdQ T4 T' (l + 16) g
theorem wrdQ.eq {T T' U U' : Int → Int} {l x : Int} (h : wrdQ T T' l x) (g : wrdQ U U' l x) (e : ∀ i, 0 ≤ i → i < l → T i = U i) : ∀ i, 0 ≤ i → i < l + 4 → T' i = U' i := fun i i0 i1 => by
  obtain ⟨h1, h2, h3, h4, h5⟩ := h
  obtain ⟨g1, g2, g3, g4, g5⟩ := g
  by_cases q : i < l
  · rw [h1 i q, g1 i q]; exact e i i0 q
  · rcases (show i = l ∨ i = l + 1 ∨ i = l + 2 ∨ i = l + 3 by omega) with q | q | q | q
    · rw [q, h2, g2]
    · rw [q, h3, g3]
    · rw [q, h4, g4]
    · rw [q, h5, g5]
theorem fdQ.eq {T T' U U' : Int → Int} {l a b c e g : Int} (h : fdQ T T' l a b c e g) (h' : fdQ U U' l a b c e g) (q : ∀ i, 0 ≤ i → i < l → T i = U i) : ∀ i, 0 ≤ i → i < l + 20 → T' i = U' i := by
  obtain ⟨T1, T2, T3, T4, t1, t2, t3, t4, t5⟩ := h
  obtain ⟨U1, U2, U3, U4, u1, u2, u3, u4, u5⟩ := h'
  have q1 := t1.eq u1 q
  have q2 := t2.eq u2 q1
  have q3 := t3.eq u3 (fun i i0 i1 => q2 i i0 (by omega))
  have q4 := t4.eq u4 (fun i i0 i1 => q3 i i0 (by omega))
  exact fun i i0 i1 => t5.eq u5 (fun i i0 i1 => q4 i i0 (by omega)) i i0 (by omega)
theorem wrdQ.kn {T T' : Int → Int} {l x : Int} (h : wrdQ T T' l x) (e : ∀ i, 0 ≤ i → i < l → kn1 (T i)) : ∀ i, 0 ≤ i → i < l + 4 → kn1 (T' i) := fun i i0 i1 => by
  obtain ⟨h1, h2, h3, h4, h5⟩ := h
  by_cases q : i < l
  · rw [h1 i q]; exact e i i0 q
  · rcases (show i = l ∨ i = l + 1 ∨ i = l + 2 ∨ i = l + 3 by omega) with q | q | q | q
    · rw [q, h2]; exact fb_r _ _
    · rw [q, h3]; exact fb_r _ _
    · rw [q, h4]; exact fb_r _ _
    · rw [q, h5]; exact fb_r _ _
theorem fdQ.kn {T T' : Int → Int} {l a b c e g : Int} (h : fdQ T T' l a b c e g) (q : ∀ i, 0 ≤ i → i < l → kn1 (T i)) : ∀ i, 0 ≤ i → i < l + 20 → kn1 (T' i) := by
  obtain ⟨T1, T2, T3, T4, t1, t2, t3, t4, t5⟩ := h
  have q1 := t1.kn q
  have q2 := t2.kn q1
  have q3 := t3.kn (fun i i0 i1 => q2 i i0 (by omega))
  have q4 := t4.kn (fun i i0 i1 => q3 i i0 (by omega))
  exact fun i i0 i1 => t5.kn (fun i i0 i1 => q4 i i0 (by omega)) i i0 (by omega)
set_option maxHeartbeats 2000000 in
theorem l_118 {n d : Nat} {w : eW} {x l : Int} (hl : w 1 0 = l) (gl : 0 ≤ l ∧ l ≤ 3996) (h4 : w 1 4 = 5) : e_Pn 20 elay kcode eI n d 118 (0, [(0, (1, 1)), (1, (0, x))], [], w) (fun r w' => r = [] ∧ w' 1 0 = l + 4 ∧ w' 1 4 = 5 ∧ wrdQ (w 5) (w' 5) l x ∧ ∀ k, w' 0 k = w 0 k) := by
  refine e_Pn.run (t' := (4, [(2, (0, 24)), (0, (1, 1)), (1, (0, x))], [(0, 24)], w)) kAlk 3 rfl ?_
  refine e_Pn.if1 kAlk rfl (fun h1 => ?_) (fun h1 => ?_)
  · replace h1 : (24 : Int) < 0 := h1
    exfalso; omega
  · replace h1 : (24 : Int) ≥ 0 := by have q : ¬ ((24 : Int) < 0) := h1; omega
    show e_Pn 20 elay kcode eI n d 118 (7, [(2, (0, 24)), (0, (1, 1)), (1, (0, x))], [], w) _
    refine e_Pn.run (t' := (8, [(2, (0, 24)), (0, (1, 1)), (1, (0, x))], [(1, 1)], w)) kAlk 1 rfl ?_
    refine e_Pn.getf (z := l) kAlk rfl rfl hl (fun b2 => ?_)
    refine e_Pn.run (t' := (14, [(2, (0, 24)), (0, (1, 1)), (1, (0, x))], [(0, 4000), (0, l)], w)) kAlk 1 rfl ?_
    refine e_Pn.if2 kAlk rfl (fun h3 => ?_) (fun h3 => ?_)
    · replace h3 : (l : Int) ≥ 4000 := h3
      exfalso; omega
    · replace h3 : (l : Int) < 4000 := by have q : ¬ ((l : Int) ≥ 4000) := h3; omega
      show e_Pn 20 elay kcode eI n d 118 (17, [(2, (0, 24)), (0, (1, 1)), (1, (0, x))], [], w) _
      refine e_Pn.run (t' := (18, [(2, (0, 24)), (0, (1, 1)), (1, (0, x))], [(1, 1)], w)) kAlk 1 rfl ?_
      refine e_Pn.getr (z := 5) kAlk rfl rfl (Eq.trans rfl h4) (by omega) ?_
      refine e_Pn.run (t' := (22, [(2, (0, 24)), (0, (1, 1)), (1, (0, x))], [(1, 1), (1, 5)], w)) kAlk 1 rfl ?_
      refine e_Pn.getf (z := l) kAlk rfl rfl hl (fun b4 => ?_)
      refine e_Pn.run (t' := (27, [(2, (0, 24)), (0, (1, 1)), (1, (0, x))], [(0, 24), (0, x), (0, l), (1, 5)], w)) kAlk 2 rfl ?_
      refine e_Pn.bin (z := fsh x 24) kAlk rfl rfl ?_
      refine e_Pn.run (t' := (29, [(2, (0, 24)), (0, (1, 1)), (1, (0, x))], [(0, Int.bmod (fsh x 24) 256), (0, l), (1, 5)], w)) kAlk 1 rfl ?_
      refine e_Pn.ast (z := fb x 24) kAlk rfl rfl rfl (fun b5 b6 => ?_)
      generalize hw7 : e_up w 5 l (fb x 24) = w7
      refine e_Pn.run (t' := (32, [(2, (0, 24)), (0, (1, 1)), (1, (0, x))], [(1, 1), (1, 1)], w7)) kAlk 2 rfl ?_
      refine e_Pn.getf (z := l) kAlk rfl rfl (by rw [← hw7]; exact (e_up_ne _ _ (Or.inl (by omega))).trans hl) (fun b8 => ?_)
      refine e_Pn.run (t' := (36, [(2, (0, 24)), (0, (1, 1)), (1, (0, x))], [(0, 1), (0, l), (1, 1)], w7)) kAlk 1 rfl ?_
      refine e_Pn.add (z := l + 1) kAlk rfl (by omega) (by omega) ?_
      refine e_Pn.putf kAlk rfl rfl ?_
      generalize hw9 : e_up w7 1 0 (l + 1) = w9
      refine e_Pn.inc (z := 16) kAlk rfl rfl (by omega) (by omega) ?_
      show e_Pn 20 elay kcode eI n d 118 (43, [(2, (0, 16)), (0, (1, 1)), (1, (0, x))], [], w9) _
      refine e_Pn.run (t' := (4, [(2, (0, 16)), (0, (1, 1)), (1, (0, x))], [(0, 16)], w9)) kAlk 2 rfl ?_
      refine e_Pn.if1 kAlk rfl (fun h10 => ?_) (fun h10 => ?_)
      · replace h10 : (16 : Int) < 0 := h10
        exfalso; omega
      · replace h10 : (16 : Int) ≥ 0 := by have q : ¬ ((16 : Int) < 0) := h10; omega
        show e_Pn 20 elay kcode eI n d 118 (7, [(2, (0, 16)), (0, (1, 1)), (1, (0, x))], [], w9) _
        refine e_Pn.run (t' := (8, [(2, (0, 16)), (0, (1, 1)), (1, (0, x))], [(1, 1)], w9)) kAlk 1 rfl ?_
        refine e_Pn.getf (z := l + 1) kAlk rfl rfl (by rw [← hw9]; exact e_up_eq _ _ _ _) (fun b11 => ?_)
        refine e_Pn.run (t' := (14, [(2, (0, 16)), (0, (1, 1)), (1, (0, x))], [(0, 4000), (0, l + 1)], w9)) kAlk 1 rfl ?_
        refine e_Pn.if2 kAlk rfl (fun h12 => ?_) (fun h12 => ?_)
        · replace h12 : (l + 1 : Int) ≥ 4000 := h12
          exfalso; omega
        · replace h12 : (l + 1 : Int) < 4000 := by have q : ¬ ((l + 1 : Int) ≥ 4000) := h12; omega
          show e_Pn 20 elay kcode eI n d 118 (17, [(2, (0, 16)), (0, (1, 1)), (1, (0, x))], [], w9) _
          refine e_Pn.run (t' := (18, [(2, (0, 16)), (0, (1, 1)), (1, (0, x))], [(1, 1)], w9)) kAlk 1 rfl ?_
          refine e_Pn.getr (z := 5) kAlk rfl rfl (Eq.trans (by rw [← hw9]; exact (e_up_ne _ _ (Or.inr (by omega))).trans (by rw [← hw7]; exact (e_up_ne _ _ (Or.inl (by omega))).trans rfl)) h4) (by omega) ?_
          refine e_Pn.run (t' := (22, [(2, (0, 16)), (0, (1, 1)), (1, (0, x))], [(1, 1), (1, 5)], w9)) kAlk 1 rfl ?_
          refine e_Pn.getf (z := l + 1) kAlk rfl rfl (by rw [← hw9]; exact e_up_eq _ _ _ _) (fun b13 => ?_)
          refine e_Pn.run (t' := (27, [(2, (0, 16)), (0, (1, 1)), (1, (0, x))], [(0, 16), (0, x), (0, l + 1), (1, 5)], w9)) kAlk 2 rfl ?_
          refine e_Pn.bin (z := fsh x 16) kAlk rfl rfl ?_
          refine e_Pn.run (t' := (29, [(2, (0, 16)), (0, (1, 1)), (1, (0, x))], [(0, Int.bmod (fsh x 16) 256), (0, l + 1), (1, 5)], w9)) kAlk 1 rfl ?_
          refine e_Pn.ast (z := fb x 16) kAlk rfl rfl rfl (fun b14 b15 => ?_)
          generalize hw16 : e_up w9 5 (l + 1) (fb x 16) = w16
          refine e_Pn.run (t' := (32, [(2, (0, 16)), (0, (1, 1)), (1, (0, x))], [(1, 1), (1, 1)], w16)) kAlk 2 rfl ?_
          refine e_Pn.getf (z := l + 1) kAlk rfl rfl (by rw [← hw16]; exact (e_up_ne _ _ (Or.inl (by omega))).trans (by rw [← hw9]; exact e_up_eq _ _ _ _)) (fun b17 => ?_)
          refine e_Pn.run (t' := (36, [(2, (0, 16)), (0, (1, 1)), (1, (0, x))], [(0, 1), (0, l + 1), (1, 1)], w16)) kAlk 1 rfl ?_
          refine e_Pn.add (z := l + 2) kAlk rfl (by omega) (by omega) ?_
          refine e_Pn.putf kAlk rfl rfl ?_
          generalize hw18 : e_up w16 1 0 (l + 2) = w18
          refine e_Pn.inc (z := 8) kAlk rfl rfl (by omega) (by omega) ?_
          show e_Pn 20 elay kcode eI n d 118 (43, [(2, (0, 8)), (0, (1, 1)), (1, (0, x))], [], w18) _
          refine e_Pn.run (t' := (4, [(2, (0, 8)), (0, (1, 1)), (1, (0, x))], [(0, 8)], w18)) kAlk 2 rfl ?_
          refine e_Pn.if1 kAlk rfl (fun h19 => ?_) (fun h19 => ?_)
          · replace h19 : (8 : Int) < 0 := h19
            exfalso; omega
          · replace h19 : (8 : Int) ≥ 0 := by have q : ¬ ((8 : Int) < 0) := h19; omega
            show e_Pn 20 elay kcode eI n d 118 (7, [(2, (0, 8)), (0, (1, 1)), (1, (0, x))], [], w18) _
            refine e_Pn.run (t' := (8, [(2, (0, 8)), (0, (1, 1)), (1, (0, x))], [(1, 1)], w18)) kAlk 1 rfl ?_
            refine e_Pn.getf (z := l + 2) kAlk rfl rfl (by rw [← hw18]; exact e_up_eq _ _ _ _) (fun b20 => ?_)
            refine e_Pn.run (t' := (14, [(2, (0, 8)), (0, (1, 1)), (1, (0, x))], [(0, 4000), (0, l + 2)], w18)) kAlk 1 rfl ?_
            refine e_Pn.if2 kAlk rfl (fun h21 => ?_) (fun h21 => ?_)
            · replace h21 : (l + 2 : Int) ≥ 4000 := h21
              exfalso; omega
            · replace h21 : (l + 2 : Int) < 4000 := by have q : ¬ ((l + 2 : Int) ≥ 4000) := h21; omega
              show e_Pn 20 elay kcode eI n d 118 (17, [(2, (0, 8)), (0, (1, 1)), (1, (0, x))], [], w18) _
              refine e_Pn.run (t' := (18, [(2, (0, 8)), (0, (1, 1)), (1, (0, x))], [(1, 1)], w18)) kAlk 1 rfl ?_
              refine e_Pn.getr (z := 5) kAlk rfl rfl (Eq.trans (by rw [← hw18]; exact (e_up_ne _ _ (Or.inr (by omega))).trans (by rw [← hw16]; exact (e_up_ne _ _ (Or.inl (by omega))).trans (by rw [← hw9]; exact (e_up_ne _ _ (Or.inr (by omega))).trans (by rw [← hw7]; exact (e_up_ne _ _ (Or.inl (by omega))).trans rfl)))) h4) (by omega) ?_
              refine e_Pn.run (t' := (22, [(2, (0, 8)), (0, (1, 1)), (1, (0, x))], [(1, 1), (1, 5)], w18)) kAlk 1 rfl ?_
              refine e_Pn.getf (z := l + 2) kAlk rfl rfl (by rw [← hw18]; exact e_up_eq _ _ _ _) (fun b22 => ?_)
              refine e_Pn.run (t' := (27, [(2, (0, 8)), (0, (1, 1)), (1, (0, x))], [(0, 8), (0, x), (0, l + 2), (1, 5)], w18)) kAlk 2 rfl ?_
              refine e_Pn.bin (z := fsh x 8) kAlk rfl rfl ?_
              refine e_Pn.run (t' := (29, [(2, (0, 8)), (0, (1, 1)), (1, (0, x))], [(0, Int.bmod (fsh x 8) 256), (0, l + 2), (1, 5)], w18)) kAlk 1 rfl ?_
              refine e_Pn.ast (z := fb x 8) kAlk rfl rfl rfl (fun b23 b24 => ?_)
              generalize hw25 : e_up w18 5 (l + 2) (fb x 8) = w25
              refine e_Pn.run (t' := (32, [(2, (0, 8)), (0, (1, 1)), (1, (0, x))], [(1, 1), (1, 1)], w25)) kAlk 2 rfl ?_
              refine e_Pn.getf (z := l + 2) kAlk rfl rfl (by rw [← hw25]; exact (e_up_ne _ _ (Or.inl (by omega))).trans (by rw [← hw18]; exact e_up_eq _ _ _ _)) (fun b26 => ?_)
              refine e_Pn.run (t' := (36, [(2, (0, 8)), (0, (1, 1)), (1, (0, x))], [(0, 1), (0, l + 2), (1, 1)], w25)) kAlk 1 rfl ?_
              refine e_Pn.add (z := l + 3) kAlk rfl (by omega) (by omega) ?_
              refine e_Pn.putf kAlk rfl rfl ?_
              generalize hw27 : e_up w25 1 0 (l + 3) = w27
              refine e_Pn.inc (z := 0) kAlk rfl rfl (by omega) (by omega) ?_
              show e_Pn 20 elay kcode eI n d 118 (43, [(2, (0, 0)), (0, (1, 1)), (1, (0, x))], [], w27) _
              refine e_Pn.run (t' := (4, [(2, (0, 0)), (0, (1, 1)), (1, (0, x))], [(0, 0)], w27)) kAlk 2 rfl ?_
              refine e_Pn.if1 kAlk rfl (fun h28 => ?_) (fun h28 => ?_)
              · replace h28 : (0 : Int) < 0 := h28
                exfalso; omega
              · replace h28 : (0 : Int) ≥ 0 := by have q : ¬ ((0 : Int) < 0) := h28; omega
                show e_Pn 20 elay kcode eI n d 118 (7, [(2, (0, 0)), (0, (1, 1)), (1, (0, x))], [], w27) _
                refine e_Pn.run (t' := (8, [(2, (0, 0)), (0, (1, 1)), (1, (0, x))], [(1, 1)], w27)) kAlk 1 rfl ?_
                refine e_Pn.getf (z := l + 3) kAlk rfl rfl (by rw [← hw27]; exact e_up_eq _ _ _ _) (fun b29 => ?_)
                refine e_Pn.run (t' := (14, [(2, (0, 0)), (0, (1, 1)), (1, (0, x))], [(0, 4000), (0, l + 3)], w27)) kAlk 1 rfl ?_
                refine e_Pn.if2 kAlk rfl (fun h30 => ?_) (fun h30 => ?_)
                · replace h30 : (l + 3 : Int) ≥ 4000 := h30
                  exfalso; omega
                · replace h30 : (l + 3 : Int) < 4000 := by have q : ¬ ((l + 3 : Int) ≥ 4000) := h30; omega
                  show e_Pn 20 elay kcode eI n d 118 (17, [(2, (0, 0)), (0, (1, 1)), (1, (0, x))], [], w27) _
                  refine e_Pn.run (t' := (18, [(2, (0, 0)), (0, (1, 1)), (1, (0, x))], [(1, 1)], w27)) kAlk 1 rfl ?_
                  refine e_Pn.getr (z := 5) kAlk rfl rfl (Eq.trans (by rw [← hw27]; exact (e_up_ne _ _ (Or.inr (by omega))).trans (by rw [← hw25]; exact (e_up_ne _ _ (Or.inl (by omega))).trans (by rw [← hw18]; exact (e_up_ne _ _ (Or.inr (by omega))).trans (by rw [← hw16]; exact (e_up_ne _ _ (Or.inl (by omega))).trans (by rw [← hw9]; exact (e_up_ne _ _ (Or.inr (by omega))).trans (by rw [← hw7]; exact (e_up_ne _ _ (Or.inl (by omega))).trans rfl)))))) h4) (by omega) ?_
                  refine e_Pn.run (t' := (22, [(2, (0, 0)), (0, (1, 1)), (1, (0, x))], [(1, 1), (1, 5)], w27)) kAlk 1 rfl ?_
                  refine e_Pn.getf (z := l + 3) kAlk rfl rfl (by rw [← hw27]; exact e_up_eq _ _ _ _) (fun b31 => ?_)
                  refine e_Pn.run (t' := (27, [(2, (0, 0)), (0, (1, 1)), (1, (0, x))], [(0, 0), (0, x), (0, l + 3), (1, 5)], w27)) kAlk 2 rfl ?_
                  refine e_Pn.bin (z := fsh x 0) kAlk rfl rfl ?_
                  refine e_Pn.run (t' := (29, [(2, (0, 0)), (0, (1, 1)), (1, (0, x))], [(0, Int.bmod (fsh x 0) 256), (0, l + 3), (1, 5)], w27)) kAlk 1 rfl ?_
                  refine e_Pn.ast (z := fb x 0) kAlk rfl rfl rfl (fun b32 b33 => ?_)
                  generalize hw34 : e_up w27 5 (l + 3) (fb x 0) = w34
                  refine e_Pn.run (t' := (32, [(2, (0, 0)), (0, (1, 1)), (1, (0, x))], [(1, 1), (1, 1)], w34)) kAlk 2 rfl ?_
                  refine e_Pn.getf (z := l + 3) kAlk rfl rfl (by rw [← hw34]; exact (e_up_ne _ _ (Or.inl (by omega))).trans (by rw [← hw27]; exact e_up_eq _ _ _ _)) (fun b35 => ?_)
                  refine e_Pn.run (t' := (36, [(2, (0, 0)), (0, (1, 1)), (1, (0, x))], [(0, 1), (0, l + 3), (1, 1)], w34)) kAlk 1 rfl ?_
                  refine e_Pn.add (z := l + 4) kAlk rfl (by omega) (by omega) ?_
                  refine e_Pn.putf kAlk rfl rfl ?_
                  generalize hw36 : e_up w34 1 0 (l + 4) = w36
                  refine e_Pn.inc (z := (-8)) kAlk rfl rfl (by omega) (by omega) ?_
                  show e_Pn 20 elay kcode eI n d 118 (43, [(2, (0, (-8))), (0, (1, 1)), (1, (0, x))], [], w36) _
                  refine e_Pn.run (t' := (4, [(2, (0, (-8))), (0, (1, 1)), (1, (0, x))], [(0, (-8))], w36)) kAlk 2 rfl ?_
                  refine e_Pn.if1 kAlk rfl (fun h37 => ?_) (fun h37 => ?_)
                  · replace h37 : ((-8) : Int) < 0 := h37
                    show e_Pn 20 elay kcode eI n d 118 (46, [(2, (0, (-8))), (0, (1, 1)), (1, (0, x))], [], w36) _
                    refine e_Pn.ret0 rfl ?_
                    exact ⟨rfl, (by rw [← hw36]; exact e_up_eq _ _ _ _), (Eq.trans (by rw [← hw36]; exact (e_up_ne _ _ (Or.inr (by omega))).trans (by rw [← hw34]; exact (e_up_ne _ _ (Or.inl (by omega))).trans (by rw [← hw27]; exact (e_up_ne _ _ (Or.inr (by omega))).trans (by rw [← hw25]; exact (e_up_ne _ _ (Or.inl (by omega))).trans (by rw [← hw18]; exact (e_up_ne _ _ (Or.inr (by omega))).trans (by rw [← hw16]; exact (e_up_ne _ _ (Or.inl (by omega))).trans (by rw [← hw9]; exact (e_up_ne _ _ (Or.inr (by omega))).trans (by rw [← hw7]; exact (e_up_ne _ _ (Or.inl (by omega))).trans rfl)))))))) h4), ⟨fun i hi => (by rw [← hw36]; exact (e_up_ne _ _ (Or.inl (by decide))).trans (by rw [← hw34]; exact (e_up_ne _ _ (Or.inr (by omega))).trans (by rw [← hw27]; exact (e_up_ne _ _ (Or.inl (by decide))).trans (by rw [← hw25]; exact (e_up_ne _ _ (Or.inr (by omega))).trans (by rw [← hw18]; exact (e_up_ne _ _ (Or.inl (by decide))).trans (by rw [← hw16]; exact (e_up_ne _ _ (Or.inr (by omega))).trans (by rw [← hw9]; exact (e_up_ne _ _ (Or.inl (by decide))).trans (by rw [← hw7]; exact (e_up_ne _ _ (Or.inr (by omega))).trans rfl)))))))), (by rw [← hw36]; exact (e_up_ne _ _ (Or.inl (by omega))).trans (by rw [← hw34]; exact (e_up_ne _ _ (Or.inr (by omega))).trans (by rw [← hw27]; exact (e_up_ne _ _ (Or.inl (by omega))).trans (by rw [← hw25]; exact (e_up_ne _ _ (Or.inr (by omega))).trans (by rw [← hw18]; exact (e_up_ne _ _ (Or.inl (by omega))).trans (by rw [← hw16]; exact (e_up_ne _ _ (Or.inr (by omega))).trans (by rw [← hw9]; exact (e_up_ne _ _ (Or.inl (by omega))).trans (by rw [← hw7]; exact e_up_eq _ _ _ _)))))))), (by rw [← hw36]; exact (e_up_ne _ _ (Or.inl (by omega))).trans (by rw [← hw34]; exact (e_up_ne _ _ (Or.inr (by omega))).trans (by rw [← hw27]; exact (e_up_ne _ _ (Or.inl (by omega))).trans (by rw [← hw25]; exact (e_up_ne _ _ (Or.inr (by omega))).trans (by rw [← hw18]; exact (e_up_ne _ _ (Or.inl (by omega))).trans (by rw [← hw16]; exact e_up_eq _ _ _ _)))))), (by rw [← hw36]; exact (e_up_ne _ _ (Or.inl (by omega))).trans (by rw [← hw34]; exact (e_up_ne _ _ (Or.inr (by omega))).trans (by rw [← hw27]; exact (e_up_ne _ _ (Or.inl (by omega))).trans (by rw [← hw25]; exact e_up_eq _ _ _ _)))), (by rw [← hw36]; exact (e_up_ne _ _ (Or.inl (by omega))).trans (by rw [← hw34]; exact e_up_eq _ _ _ _))⟩, (fun k => (by rw [← hw36]; exact (e_up_ne _ _ (Or.inl (by decide))).trans (by rw [← hw34]; exact (e_up_ne _ _ (Or.inl (by decide))).trans (by rw [← hw27]; exact (e_up_ne _ _ (Or.inl (by decide))).trans (by rw [← hw25]; exact (e_up_ne _ _ (Or.inl (by decide))).trans (by rw [← hw18]; exact (e_up_ne _ _ (Or.inl (by decide))).trans (by rw [← hw16]; exact (e_up_ne _ _ (Or.inl (by decide))).trans (by rw [← hw9]; exact (e_up_ne _ _ (Or.inl (by decide))).trans (by rw [← hw7]; exact (e_up_ne _ _ (Or.inl (by decide))).trans rfl)))))))))⟩
                  · replace h37 : ((-8) : Int) ≥ 0 := by have q : ¬ (((-8) : Int) < 0) := h37; omega
                    exfalso; omega
set_option maxHeartbeats 2000000 in
theorem l_190 {n d : Nat} {w : eW} {a b c e g l : Int} (hl : w 1 0 = l) (gl : 0 ≤ l ∧ l ≤ 4000) (h4 : w 1 4 = 5) (h0 : w 0 0 = 1) : e_Pn 20 elay kcode eI n d 190 (0, [(0, (1, 0)), (1, (0, a)), (2, (0, b)), (3, (0, c)), (4, (0, e)), (5, (0, g))], [], w) (fun r w' => (3980 < l ∧ r = [(0, -3)] ∧ w = w') ∨ (l ≤ 3980 ∧ r = [(0, l + 20)] ∧ fdQ (w 5) (w' 5) l a b c e g ∧ w' 1 0 = l + 20)) := by
  refine e_Pn.run (t' := (1, [(0, (1, 0)), (1, (0, a)), (2, (0, b)), (3, (0, c)), (4, (0, e)), (5, (0, g))], [(1, 0)], w)) kAlk 1 rfl ?_
  refine e_Pn.getr (z := 1) kAlk rfl rfl h0 (by omega) ?_
  refine e_Pn.getf (z := l) kAlk rfl rfl hl (fun b1 => ?_)
  refine e_Pn.run (t' := (10, [(0, (1, 0)), (1, (0, a)), (2, (0, b)), (3, (0, c)), (4, (0, e)), (5, (0, g))], [(0, 3980), (0, l)], w)) kAlk 1 rfl ?_
  refine e_Pn.if2 kAlk rfl (fun h2 => ?_) (fun h2 => ?_)
  · replace h2 : (l : Int) ≤ 3980 := h2
    show e_Pn 20 elay kcode eI n d 190 (16, [(0, (1, 0)), (1, (0, a)), (2, (0, b)), (3, (0, c)), (4, (0, e)), (5, (0, g))], [], w) _
    refine e_Pn.run (t' := (17, [(0, (1, 0)), (1, (0, a)), (2, (0, b)), (3, (0, c)), (4, (0, e)), (5, (0, g))], [(1, 0)], w)) kAlk 1 rfl ?_
    refine e_Pn.getr (z := 1) kAlk rfl rfl h0 (by omega) ?_
    refine e_Pn.run (t' := (21, [(0, (1, 0)), (1, (0, a)), (2, (0, b)), (3, (0, c)), (4, (0, e)), (5, (0, g))], [(0, a), (1, 1)], w)) kAlk 1 rfl ?_
    refine e_Pn.callA rfl (fun nq dq => l_118 (l := l) hl (by omega) h4) (fun r3 w4 h5 => ?_)
    obtain ⟨rfl, w4l, w4h, w4q, w4y⟩ := h5
    have w4z : ∀ k, w4 0 k = w 0 k := w4y
    show e_Pn 20 elay kcode eI n d 190 (24, [(0, (1, 0)), (1, (0, a)), (2, (0, b)), (3, (0, c)), (4, (0, e)), (5, (0, g))], [], w4) _
    refine e_Pn.run (t' := (25, [(0, (1, 0)), (1, (0, a)), (2, (0, b)), (3, (0, c)), (4, (0, e)), (5, (0, g))], [(1, 0)], w4)) kAlk 1 rfl ?_
    refine e_Pn.getr (z := 1) kAlk rfl rfl (Eq.trans (w4z 0) h0) (by omega) ?_
    refine e_Pn.run (t' := (29, [(0, (1, 0)), (1, (0, a)), (2, (0, b)), (3, (0, c)), (4, (0, e)), (5, (0, g))], [(0, b), (1, 1)], w4)) kAlk 1 rfl ?_
    refine e_Pn.callA rfl (fun nq dq => l_118 (l := l + 4) w4l (by omega) w4h) (fun r6 w7 h8 => ?_)
    obtain ⟨rfl, w7l, w7h, w7q, w7y⟩ := h8
    have w7z : ∀ k, w7 0 k = w 0 k := fun k => (w7y k).trans (w4z k)
    rw [show l + 4 + 4 = l + 8 by omega] at w7l
    show e_Pn 20 elay kcode eI n d 190 (32, [(0, (1, 0)), (1, (0, a)), (2, (0, b)), (3, (0, c)), (4, (0, e)), (5, (0, g))], [], w7) _
    refine e_Pn.run (t' := (33, [(0, (1, 0)), (1, (0, a)), (2, (0, b)), (3, (0, c)), (4, (0, e)), (5, (0, g))], [(1, 0)], w7)) kAlk 1 rfl ?_
    refine e_Pn.getr (z := 1) kAlk rfl rfl (Eq.trans (w7z 0) h0) (by omega) ?_
    refine e_Pn.run (t' := (37, [(0, (1, 0)), (1, (0, a)), (2, (0, b)), (3, (0, c)), (4, (0, e)), (5, (0, g))], [(0, c), (1, 1)], w7)) kAlk 1 rfl ?_
    refine e_Pn.callA rfl (fun nq dq => l_118 (l := l + 8) w7l (by omega) w7h) (fun r9 w10 h11 => ?_)
    obtain ⟨rfl, w10l, w10h, w10q, w10y⟩ := h11
    have w10z : ∀ k, w10 0 k = w 0 k := fun k => (w10y k).trans (w7z k)
    rw [show l + 8 + 4 = l + 12 by omega] at w10l
    show e_Pn 20 elay kcode eI n d 190 (40, [(0, (1, 0)), (1, (0, a)), (2, (0, b)), (3, (0, c)), (4, (0, e)), (5, (0, g))], [], w10) _
    refine e_Pn.run (t' := (41, [(0, (1, 0)), (1, (0, a)), (2, (0, b)), (3, (0, c)), (4, (0, e)), (5, (0, g))], [(1, 0)], w10)) kAlk 1 rfl ?_
    refine e_Pn.getr (z := 1) kAlk rfl rfl (Eq.trans (w10z 0) h0) (by omega) ?_
    refine e_Pn.run (t' := (46, [(0, (1, 0)), (1, (0, a)), (2, (0, b)), (3, (0, c)), (4, (0, e)), (5, (0, g))], [(0, e), (1, 1)], w10)) kAlk 1 rfl ?_
    refine e_Pn.callA rfl (fun nq dq => l_118 (l := l + 12) w10l (by omega) w10h) (fun r12 w13 h14 => ?_)
    obtain ⟨rfl, w13l, w13h, w13q, w13y⟩ := h14
    have w13z : ∀ k, w13 0 k = w 0 k := fun k => (w13y k).trans (w10z k)
    rw [show l + 12 + 4 = l + 16 by omega] at w13l
    show e_Pn 20 elay kcode eI n d 190 (49, [(0, (1, 0)), (1, (0, a)), (2, (0, b)), (3, (0, c)), (4, (0, e)), (5, (0, g))], [], w13) _
    refine e_Pn.run (t' := (50, [(0, (1, 0)), (1, (0, a)), (2, (0, b)), (3, (0, c)), (4, (0, e)), (5, (0, g))], [(1, 0)], w13)) kAlk 1 rfl ?_
    refine e_Pn.getr (z := 1) kAlk rfl rfl (Eq.trans (w13z 0) h0) (by omega) ?_
    refine e_Pn.run (t' := (55, [(0, (1, 0)), (1, (0, a)), (2, (0, b)), (3, (0, c)), (4, (0, e)), (5, (0, g))], [(0, g), (1, 1)], w13)) kAlk 1 rfl ?_
    refine e_Pn.callA rfl (fun nq dq => l_118 (l := l + 16) w13l (by omega) w13h) (fun r15 w16 h17 => ?_)
    obtain ⟨rfl, w16l, w16h, w16q, w16y⟩ := h17
    have w16z : ∀ k, w16 0 k = w 0 k := fun k => (w16y k).trans (w13z k)
    rw [show l + 16 + 4 = l + 20 by omega] at w16l
    show e_Pn 20 elay kcode eI n d 190 (58, [(0, (1, 0)), (1, (0, a)), (2, (0, b)), (3, (0, c)), (4, (0, e)), (5, (0, g))], [], w16) _
    refine e_Pn.run (t' := (59, [(0, (1, 0)), (1, (0, a)), (2, (0, b)), (3, (0, c)), (4, (0, e)), (5, (0, g))], [(1, 0)], w16)) kAlk 1 rfl ?_
    refine e_Pn.getr (z := 1) kAlk rfl rfl (Eq.trans (w16z 0) h0) (by omega) ?_
    refine e_Pn.getf (z := l + 20) kAlk rfl rfl w16l (fun b18 => ?_)
    refine e_Pn.ret1 rfl ?_
    exact Or.inr ⟨by omega, rfl, ⟨w4 5, w7 5, w10 5, w13 5, w4q, w7q, w10q, w13q, w16q⟩, w16l⟩
  · replace h2 : (l : Int) > 3980 := by have q : ¬ ((l : Int) ≤ 3980) := h2; omega
    show e_Pn 20 elay kcode eI n d 190 (13, [(0, (1, 0)), (1, (0, a)), (2, (0, b)), (3, (0, c)), (4, (0, e)), (5, (0, g))], [], w) _
    refine e_Pn.run (t' := (15, [(0, (1, 0)), (1, (0, a)), (2, (0, b)), (3, (0, c)), (4, (0, e)), (5, (0, g))], [(0, (-3))], w)) kAlk 1 rfl ?_
    refine e_Pn.ret1 rfl ?_
    exact Or.inl ⟨by omega, rfl, rfl⟩
set_option maxHeartbeats 2000000 in
theorem l_275 {n d : Nat} {w : eW} {x l : Int} (hl : w 275 9 = l) (gl : 0 ≤ l ∧ l ≤ 3996) (h4 : w 275 8 = 281) : e_Pn 20 elay ecode eI n d 275 (0, [(0, (1, 275)), (1, (0, x))], [], w) (fun r w' => r = [] ∧ w' 275 9 = l + 4 ∧ w' 275 8 = 281 ∧ wrdQ (w 281) (w' 281) l x) := by
  refine e_Pn.run (t' := (4, [(2, (0, 24)), (0, (1, 275)), (1, (0, x))], [(0, 24)], w)) eAlk 3 rfl ?_
  refine e_Pn.if1 eAlk rfl (fun h1 => ?_) (fun h1 => ?_)
  · replace h1 : (24 : Int) < 0 := h1
    exfalso; omega
  · replace h1 : (24 : Int) ≥ 0 := by have q : ¬ ((24 : Int) < 0) := h1; omega
    show e_Pn 20 elay ecode eI n d 275 (7, [(2, (0, 24)), (0, (1, 275)), (1, (0, x))], [], w) _
    refine e_Pn.run (t' := (8, [(2, (0, 24)), (0, (1, 275)), (1, (0, x))], [(1, 275)], w)) eAlk 1 rfl ?_
    refine e_Pn.getr (z := 281) eAlk rfl rfl (Eq.trans rfl h4) (by omega) ?_
    refine e_Pn.run (t' := (12, [(2, (0, 24)), (0, (1, 275)), (1, (0, x))], [(1, 275), (1, 281)], w)) eAlk 1 rfl ?_
    refine e_Pn.getf (z := l) eAlk rfl rfl hl (fun b2 => ?_)
    refine e_Pn.run (t' := (17, [(2, (0, 24)), (0, (1, 275)), (1, (0, x))], [(0, 24), (0, x), (0, l), (1, 281)], w)) eAlk 2 rfl ?_
    refine e_Pn.bin (z := fsh x 24) eAlk rfl rfl ?_
    refine e_Pn.run (t' := (19, [(2, (0, 24)), (0, (1, 275)), (1, (0, x))], [(0, Int.bmod (fsh x 24) 256), (0, l), (1, 281)], w)) eAlk 1 rfl ?_
    refine e_Pn.ast (z := fb x 24) eAlk rfl rfl rfl (fun b3 b4 => ?_)
    generalize hw5 : e_up w 281 l (fb x 24) = w5
    refine e_Pn.run (t' := (22, [(2, (0, 24)), (0, (1, 275)), (1, (0, x))], [(1, 275), (1, 275)], w5)) eAlk 2 rfl ?_
    refine e_Pn.getf (z := l) eAlk rfl rfl (by rw [← hw5]; exact (e_up_ne _ _ (Or.inl (by omega))).trans hl) (fun b6 => ?_)
    refine e_Pn.run (t' := (26, [(2, (0, 24)), (0, (1, 275)), (1, (0, x))], [(0, 1), (0, l), (1, 275)], w5)) eAlk 1 rfl ?_
    refine e_Pn.add (z := l + 1) eAlk rfl (by omega) (by omega) ?_
    refine e_Pn.putf eAlk rfl rfl ?_
    generalize hw7 : e_up w5 275 9 (l + 1) = w7
    refine e_Pn.inc (z := 16) eAlk rfl rfl (by omega) (by omega) ?_
    show e_Pn 20 elay ecode eI n d 275 (33, [(2, (0, 16)), (0, (1, 275)), (1, (0, x))], [], w7) _
    refine e_Pn.run (t' := (4, [(2, (0, 16)), (0, (1, 275)), (1, (0, x))], [(0, 16)], w7)) eAlk 2 rfl ?_
    refine e_Pn.if1 eAlk rfl (fun h8 => ?_) (fun h8 => ?_)
    · replace h8 : (16 : Int) < 0 := h8
      exfalso; omega
    · replace h8 : (16 : Int) ≥ 0 := by have q : ¬ ((16 : Int) < 0) := h8; omega
      show e_Pn 20 elay ecode eI n d 275 (7, [(2, (0, 16)), (0, (1, 275)), (1, (0, x))], [], w7) _
      refine e_Pn.run (t' := (8, [(2, (0, 16)), (0, (1, 275)), (1, (0, x))], [(1, 275)], w7)) eAlk 1 rfl ?_
      refine e_Pn.getr (z := 281) eAlk rfl rfl (Eq.trans (by rw [← hw7]; exact (e_up_ne _ _ (Or.inr (by omega))).trans (by rw [← hw5]; exact (e_up_ne _ _ (Or.inl (by omega))).trans rfl)) h4) (by omega) ?_
      refine e_Pn.run (t' := (12, [(2, (0, 16)), (0, (1, 275)), (1, (0, x))], [(1, 275), (1, 281)], w7)) eAlk 1 rfl ?_
      refine e_Pn.getf (z := l + 1) eAlk rfl rfl (by rw [← hw7]; exact e_up_eq _ _ _ _) (fun b9 => ?_)
      refine e_Pn.run (t' := (17, [(2, (0, 16)), (0, (1, 275)), (1, (0, x))], [(0, 16), (0, x), (0, l + 1), (1, 281)], w7)) eAlk 2 rfl ?_
      refine e_Pn.bin (z := fsh x 16) eAlk rfl rfl ?_
      refine e_Pn.run (t' := (19, [(2, (0, 16)), (0, (1, 275)), (1, (0, x))], [(0, Int.bmod (fsh x 16) 256), (0, l + 1), (1, 281)], w7)) eAlk 1 rfl ?_
      refine e_Pn.ast (z := fb x 16) eAlk rfl rfl rfl (fun b10 b11 => ?_)
      generalize hw12 : e_up w7 281 (l + 1) (fb x 16) = w12
      refine e_Pn.run (t' := (22, [(2, (0, 16)), (0, (1, 275)), (1, (0, x))], [(1, 275), (1, 275)], w12)) eAlk 2 rfl ?_
      refine e_Pn.getf (z := l + 1) eAlk rfl rfl (by rw [← hw12]; exact (e_up_ne _ _ (Or.inl (by omega))).trans (by rw [← hw7]; exact e_up_eq _ _ _ _)) (fun b13 => ?_)
      refine e_Pn.run (t' := (26, [(2, (0, 16)), (0, (1, 275)), (1, (0, x))], [(0, 1), (0, l + 1), (1, 275)], w12)) eAlk 1 rfl ?_
      refine e_Pn.add (z := l + 2) eAlk rfl (by omega) (by omega) ?_
      refine e_Pn.putf eAlk rfl rfl ?_
      generalize hw14 : e_up w12 275 9 (l + 2) = w14
      refine e_Pn.inc (z := 8) eAlk rfl rfl (by omega) (by omega) ?_
      show e_Pn 20 elay ecode eI n d 275 (33, [(2, (0, 8)), (0, (1, 275)), (1, (0, x))], [], w14) _
      refine e_Pn.run (t' := (4, [(2, (0, 8)), (0, (1, 275)), (1, (0, x))], [(0, 8)], w14)) eAlk 2 rfl ?_
      refine e_Pn.if1 eAlk rfl (fun h15 => ?_) (fun h15 => ?_)
      · replace h15 : (8 : Int) < 0 := h15
        exfalso; omega
      · replace h15 : (8 : Int) ≥ 0 := by have q : ¬ ((8 : Int) < 0) := h15; omega
        show e_Pn 20 elay ecode eI n d 275 (7, [(2, (0, 8)), (0, (1, 275)), (1, (0, x))], [], w14) _
        refine e_Pn.run (t' := (8, [(2, (0, 8)), (0, (1, 275)), (1, (0, x))], [(1, 275)], w14)) eAlk 1 rfl ?_
        refine e_Pn.getr (z := 281) eAlk rfl rfl (Eq.trans (by rw [← hw14]; exact (e_up_ne _ _ (Or.inr (by omega))).trans (by rw [← hw12]; exact (e_up_ne _ _ (Or.inl (by omega))).trans (by rw [← hw7]; exact (e_up_ne _ _ (Or.inr (by omega))).trans (by rw [← hw5]; exact (e_up_ne _ _ (Or.inl (by omega))).trans rfl)))) h4) (by omega) ?_
        refine e_Pn.run (t' := (12, [(2, (0, 8)), (0, (1, 275)), (1, (0, x))], [(1, 275), (1, 281)], w14)) eAlk 1 rfl ?_
        refine e_Pn.getf (z := l + 2) eAlk rfl rfl (by rw [← hw14]; exact e_up_eq _ _ _ _) (fun b16 => ?_)
        refine e_Pn.run (t' := (17, [(2, (0, 8)), (0, (1, 275)), (1, (0, x))], [(0, 8), (0, x), (0, l + 2), (1, 281)], w14)) eAlk 2 rfl ?_
        refine e_Pn.bin (z := fsh x 8) eAlk rfl rfl ?_
        refine e_Pn.run (t' := (19, [(2, (0, 8)), (0, (1, 275)), (1, (0, x))], [(0, Int.bmod (fsh x 8) 256), (0, l + 2), (1, 281)], w14)) eAlk 1 rfl ?_
        refine e_Pn.ast (z := fb x 8) eAlk rfl rfl rfl (fun b17 b18 => ?_)
        generalize hw19 : e_up w14 281 (l + 2) (fb x 8) = w19
        refine e_Pn.run (t' := (22, [(2, (0, 8)), (0, (1, 275)), (1, (0, x))], [(1, 275), (1, 275)], w19)) eAlk 2 rfl ?_
        refine e_Pn.getf (z := l + 2) eAlk rfl rfl (by rw [← hw19]; exact (e_up_ne _ _ (Or.inl (by omega))).trans (by rw [← hw14]; exact e_up_eq _ _ _ _)) (fun b20 => ?_)
        refine e_Pn.run (t' := (26, [(2, (0, 8)), (0, (1, 275)), (1, (0, x))], [(0, 1), (0, l + 2), (1, 275)], w19)) eAlk 1 rfl ?_
        refine e_Pn.add (z := l + 3) eAlk rfl (by omega) (by omega) ?_
        refine e_Pn.putf eAlk rfl rfl ?_
        generalize hw21 : e_up w19 275 9 (l + 3) = w21
        refine e_Pn.inc (z := 0) eAlk rfl rfl (by omega) (by omega) ?_
        show e_Pn 20 elay ecode eI n d 275 (33, [(2, (0, 0)), (0, (1, 275)), (1, (0, x))], [], w21) _
        refine e_Pn.run (t' := (4, [(2, (0, 0)), (0, (1, 275)), (1, (0, x))], [(0, 0)], w21)) eAlk 2 rfl ?_
        refine e_Pn.if1 eAlk rfl (fun h22 => ?_) (fun h22 => ?_)
        · replace h22 : (0 : Int) < 0 := h22
          exfalso; omega
        · replace h22 : (0 : Int) ≥ 0 := by have q : ¬ ((0 : Int) < 0) := h22; omega
          show e_Pn 20 elay ecode eI n d 275 (7, [(2, (0, 0)), (0, (1, 275)), (1, (0, x))], [], w21) _
          refine e_Pn.run (t' := (8, [(2, (0, 0)), (0, (1, 275)), (1, (0, x))], [(1, 275)], w21)) eAlk 1 rfl ?_
          refine e_Pn.getr (z := 281) eAlk rfl rfl (Eq.trans (by rw [← hw21]; exact (e_up_ne _ _ (Or.inr (by omega))).trans (by rw [← hw19]; exact (e_up_ne _ _ (Or.inl (by omega))).trans (by rw [← hw14]; exact (e_up_ne _ _ (Or.inr (by omega))).trans (by rw [← hw12]; exact (e_up_ne _ _ (Or.inl (by omega))).trans (by rw [← hw7]; exact (e_up_ne _ _ (Or.inr (by omega))).trans (by rw [← hw5]; exact (e_up_ne _ _ (Or.inl (by omega))).trans rfl)))))) h4) (by omega) ?_
          refine e_Pn.run (t' := (12, [(2, (0, 0)), (0, (1, 275)), (1, (0, x))], [(1, 275), (1, 281)], w21)) eAlk 1 rfl ?_
          refine e_Pn.getf (z := l + 3) eAlk rfl rfl (by rw [← hw21]; exact e_up_eq _ _ _ _) (fun b23 => ?_)
          refine e_Pn.run (t' := (17, [(2, (0, 0)), (0, (1, 275)), (1, (0, x))], [(0, 0), (0, x), (0, l + 3), (1, 281)], w21)) eAlk 2 rfl ?_
          refine e_Pn.bin (z := fsh x 0) eAlk rfl rfl ?_
          refine e_Pn.run (t' := (19, [(2, (0, 0)), (0, (1, 275)), (1, (0, x))], [(0, Int.bmod (fsh x 0) 256), (0, l + 3), (1, 281)], w21)) eAlk 1 rfl ?_
          refine e_Pn.ast (z := fb x 0) eAlk rfl rfl rfl (fun b24 b25 => ?_)
          generalize hw26 : e_up w21 281 (l + 3) (fb x 0) = w26
          refine e_Pn.run (t' := (22, [(2, (0, 0)), (0, (1, 275)), (1, (0, x))], [(1, 275), (1, 275)], w26)) eAlk 2 rfl ?_
          refine e_Pn.getf (z := l + 3) eAlk rfl rfl (by rw [← hw26]; exact (e_up_ne _ _ (Or.inl (by omega))).trans (by rw [← hw21]; exact e_up_eq _ _ _ _)) (fun b27 => ?_)
          refine e_Pn.run (t' := (26, [(2, (0, 0)), (0, (1, 275)), (1, (0, x))], [(0, 1), (0, l + 3), (1, 275)], w26)) eAlk 1 rfl ?_
          refine e_Pn.add (z := l + 4) eAlk rfl (by omega) (by omega) ?_
          refine e_Pn.putf eAlk rfl rfl ?_
          generalize hw28 : e_up w26 275 9 (l + 4) = w28
          refine e_Pn.inc (z := (-8)) eAlk rfl rfl (by omega) (by omega) ?_
          show e_Pn 20 elay ecode eI n d 275 (33, [(2, (0, (-8))), (0, (1, 275)), (1, (0, x))], [], w28) _
          refine e_Pn.run (t' := (4, [(2, (0, (-8))), (0, (1, 275)), (1, (0, x))], [(0, (-8))], w28)) eAlk 2 rfl ?_
          refine e_Pn.if1 eAlk rfl (fun h29 => ?_) (fun h29 => ?_)
          · replace h29 : ((-8) : Int) < 0 := h29
            show e_Pn 20 elay ecode eI n d 275 (36, [(2, (0, (-8))), (0, (1, 275)), (1, (0, x))], [], w28) _
            refine e_Pn.ret0 rfl ?_
            exact ⟨rfl, (by rw [← hw28]; exact e_up_eq _ _ _ _), (Eq.trans (by rw [← hw28]; exact (e_up_ne _ _ (Or.inr (by omega))).trans (by rw [← hw26]; exact (e_up_ne _ _ (Or.inl (by omega))).trans (by rw [← hw21]; exact (e_up_ne _ _ (Or.inr (by omega))).trans (by rw [← hw19]; exact (e_up_ne _ _ (Or.inl (by omega))).trans (by rw [← hw14]; exact (e_up_ne _ _ (Or.inr (by omega))).trans (by rw [← hw12]; exact (e_up_ne _ _ (Or.inl (by omega))).trans (by rw [← hw7]; exact (e_up_ne _ _ (Or.inr (by omega))).trans (by rw [← hw5]; exact (e_up_ne _ _ (Or.inl (by omega))).trans rfl)))))))) h4), ⟨fun i hi => (by rw [← hw28]; exact (e_up_ne _ _ (Or.inl (by decide))).trans (by rw [← hw26]; exact (e_up_ne _ _ (Or.inr (by omega))).trans (by rw [← hw21]; exact (e_up_ne _ _ (Or.inl (by decide))).trans (by rw [← hw19]; exact (e_up_ne _ _ (Or.inr (by omega))).trans (by rw [← hw14]; exact (e_up_ne _ _ (Or.inl (by decide))).trans (by rw [← hw12]; exact (e_up_ne _ _ (Or.inr (by omega))).trans (by rw [← hw7]; exact (e_up_ne _ _ (Or.inl (by decide))).trans (by rw [← hw5]; exact (e_up_ne _ _ (Or.inr (by omega))).trans rfl)))))))), (by rw [← hw28]; exact (e_up_ne _ _ (Or.inl (by omega))).trans (by rw [← hw26]; exact (e_up_ne _ _ (Or.inr (by omega))).trans (by rw [← hw21]; exact (e_up_ne _ _ (Or.inl (by omega))).trans (by rw [← hw19]; exact (e_up_ne _ _ (Or.inr (by omega))).trans (by rw [← hw14]; exact (e_up_ne _ _ (Or.inl (by omega))).trans (by rw [← hw12]; exact (e_up_ne _ _ (Or.inr (by omega))).trans (by rw [← hw7]; exact (e_up_ne _ _ (Or.inl (by omega))).trans (by rw [← hw5]; exact e_up_eq _ _ _ _)))))))), (by rw [← hw28]; exact (e_up_ne _ _ (Or.inl (by omega))).trans (by rw [← hw26]; exact (e_up_ne _ _ (Or.inr (by omega))).trans (by rw [← hw21]; exact (e_up_ne _ _ (Or.inl (by omega))).trans (by rw [← hw19]; exact (e_up_ne _ _ (Or.inr (by omega))).trans (by rw [← hw14]; exact (e_up_ne _ _ (Or.inl (by omega))).trans (by rw [← hw12]; exact e_up_eq _ _ _ _)))))), (by rw [← hw28]; exact (e_up_ne _ _ (Or.inl (by omega))).trans (by rw [← hw26]; exact (e_up_ne _ _ (Or.inr (by omega))).trans (by rw [← hw21]; exact (e_up_ne _ _ (Or.inl (by omega))).trans (by rw [← hw19]; exact e_up_eq _ _ _ _)))), (by rw [← hw28]; exact (e_up_ne _ _ (Or.inl (by omega))).trans (by rw [← hw26]; exact e_up_eq _ _ _ _))⟩⟩
          · replace h29 : ((-8) : Int) ≥ 0 := by have q : ¬ (((-8) : Int) < 0) := h29; omega
            exfalso; omega
set_option maxHeartbeats 2000000 in
theorem l_274 {n d : Nat} {w : eW} {a b c e g l : Int} (hl : w 275 9 = l) (gl : 0 ≤ l ∧ l ≤ 4000) (h4 : w 275 8 = 281) : e_Pn 20 elay ecode eI n d 274 (0, [(0, (1, 275)), (1, (0, a)), (2, (0, b)), (3, (0, c)), (4, (0, e)), (5, (0, g))], [], w) (fun r w' => (3980 < l ∧ r = [(0, -3)] ∧ w = w') ∨ (l ≤ 3980 ∧ r = [(0, l + 20)] ∧ fdQ (w 281) (w' 281) l a b c e g ∧ w' 275 9 = l + 20)) := by
  refine e_Pn.run (t' := (1, [(0, (1, 275)), (1, (0, a)), (2, (0, b)), (3, (0, c)), (4, (0, e)), (5, (0, g))], [(1, 275)], w)) eAlk 1 rfl ?_
  refine e_Pn.getf (z := l) eAlk rfl rfl hl (fun b1 => ?_)
  refine e_Pn.run (t' := (6, [(0, (1, 275)), (1, (0, a)), (2, (0, b)), (3, (0, c)), (4, (0, e)), (5, (0, g))], [(0, 20), (0, l)], w)) eAlk 1 rfl ?_
  refine e_Pn.add (z := l + 20) eAlk rfl (by omega) (by omega) ?_
  refine e_Pn.run (t' := (10, [(0, (1, 275)), (1, (0, a)), (2, (0, b)), (3, (0, c)), (4, (0, e)), (5, (0, g))], [(0, 4000), (0, l + 20)], w)) eAlk 1 rfl ?_
  refine e_Pn.if2 eAlk rfl (fun h2 => ?_) (fun h2 => ?_)
  · replace h2 : (l + 20 : Int) ≤ 4000 := h2
    show e_Pn 20 elay ecode eI n d 274 (16, [(0, (1, 275)), (1, (0, a)), (2, (0, b)), (3, (0, c)), (4, (0, e)), (5, (0, g))], [], w) _
    refine e_Pn.run (t' := (18, [(0, (1, 275)), (1, (0, a)), (2, (0, b)), (3, (0, c)), (4, (0, e)), (5, (0, g))], [(0, a), (1, 275)], w)) eAlk 2 rfl ?_
    refine e_Pn.callA rfl (fun nq dq => l_275 (l := l) hl (by omega) h4) (fun r3 w4 h5 => ?_)
    obtain ⟨rfl, w4l, w4h, w4q⟩ := h5
    show e_Pn 20 elay ecode eI n d 274 (21, [(0, (1, 275)), (1, (0, a)), (2, (0, b)), (3, (0, c)), (4, (0, e)), (5, (0, g))], [], w4) _
    refine e_Pn.run (t' := (23, [(0, (1, 275)), (1, (0, a)), (2, (0, b)), (3, (0, c)), (4, (0, e)), (5, (0, g))], [(0, b), (1, 275)], w4)) eAlk 2 rfl ?_
    refine e_Pn.callA rfl (fun nq dq => l_275 (l := l + 4) w4l (by omega) w4h) (fun r6 w7 h8 => ?_)
    obtain ⟨rfl, w7l, w7h, w7q⟩ := h8
    rw [show l + 4 + 4 = l + 8 by omega] at w7l
    show e_Pn 20 elay ecode eI n d 274 (26, [(0, (1, 275)), (1, (0, a)), (2, (0, b)), (3, (0, c)), (4, (0, e)), (5, (0, g))], [], w7) _
    refine e_Pn.run (t' := (28, [(0, (1, 275)), (1, (0, a)), (2, (0, b)), (3, (0, c)), (4, (0, e)), (5, (0, g))], [(0, c), (1, 275)], w7)) eAlk 2 rfl ?_
    refine e_Pn.callA rfl (fun nq dq => l_275 (l := l + 8) w7l (by omega) w7h) (fun r9 w10 h11 => ?_)
    obtain ⟨rfl, w10l, w10h, w10q⟩ := h11
    rw [show l + 8 + 4 = l + 12 by omega] at w10l
    show e_Pn 20 elay ecode eI n d 274 (31, [(0, (1, 275)), (1, (0, a)), (2, (0, b)), (3, (0, c)), (4, (0, e)), (5, (0, g))], [], w10) _
    refine e_Pn.run (t' := (34, [(0, (1, 275)), (1, (0, a)), (2, (0, b)), (3, (0, c)), (4, (0, e)), (5, (0, g))], [(0, e), (1, 275)], w10)) eAlk 2 rfl ?_
    refine e_Pn.callA rfl (fun nq dq => l_275 (l := l + 12) w10l (by omega) w10h) (fun r12 w13 h14 => ?_)
    obtain ⟨rfl, w13l, w13h, w13q⟩ := h14
    rw [show l + 12 + 4 = l + 16 by omega] at w13l
    show e_Pn 20 elay ecode eI n d 274 (37, [(0, (1, 275)), (1, (0, a)), (2, (0, b)), (3, (0, c)), (4, (0, e)), (5, (0, g))], [], w13) _
    refine e_Pn.run (t' := (40, [(0, (1, 275)), (1, (0, a)), (2, (0, b)), (3, (0, c)), (4, (0, e)), (5, (0, g))], [(0, g), (1, 275)], w13)) eAlk 2 rfl ?_
    refine e_Pn.callA rfl (fun nq dq => l_275 (l := l + 16) w13l (by omega) w13h) (fun r15 w16 h17 => ?_)
    obtain ⟨rfl, w16l, w16h, w16q⟩ := h17
    rw [show l + 16 + 4 = l + 20 by omega] at w16l
    show e_Pn 20 elay ecode eI n d 274 (43, [(0, (1, 275)), (1, (0, a)), (2, (0, b)), (3, (0, c)), (4, (0, e)), (5, (0, g))], [], w16) _
    refine e_Pn.run (t' := (44, [(0, (1, 275)), (1, (0, a)), (2, (0, b)), (3, (0, c)), (4, (0, e)), (5, (0, g))], [(1, 275)], w16)) eAlk 1 rfl ?_
    refine e_Pn.getf (z := l + 20) eAlk rfl rfl w16l (fun b18 => ?_)
    refine e_Pn.ret1 rfl ?_
    exact Or.inr ⟨by omega, rfl, ⟨w4 281, w7 281, w10 281, w13 281, w4q, w7q, w10q, w13q, w16q⟩, w16l⟩
  · replace h2 : (l + 20 : Int) > 4000 := by have q : ¬ ((l + 20 : Int) ≤ 4000) := h2; omega
    show e_Pn 20 elay ecode eI n d 274 (13, [(0, (1, 275)), (1, (0, a)), (2, (0, b)), (3, (0, c)), (4, (0, e)), (5, (0, g))], [], w) _
    refine e_Pn.run (t' := (15, [(0, (1, 275)), (1, (0, a)), (2, (0, b)), (3, (0, c)), (4, (0, e)), (5, (0, g))], [(0, (-3))], w)) eAlk 1 rfl ?_
    refine e_Pn.ret1 rfl ?_
    exact Or.inl ⟨by omega, rfl, rfl⟩
theorem l_242 {n d : Nat} {w : eW} {x y z : Int} : e_Pn 20 elay kcode eI n d 242 (0, [(0, (0, x)), (1, (0, y)), (2, (0, z))], [], w) (fun r w' => ∃ z : Int, r = [(0, z)] ∧ w = w') := by
  refine e_Pn.run (t' := (2, [(0, (0, x)), (1, (0, y)), (2, (0, z))], [(0, x), (0, y)], w)) kAlk 2 rfl ?_
  refine e_Pn.if2 kAlk rfl (fun h1 => ?_) (fun h1 => ?_)
  · replace h1 : (y : Int) > x := h1
    show e_Pn 20 elay kcode eI n d 242 (14, [(0, (0, x)), (1, (0, y)), (2, (0, z))], [], w) _
    refine e_Pn.run (t' := (15, [(0, (0, x)), (1, (0, y)), (2, (0, z))], [(0, 0)], w)) kAlk 1 rfl ?_
    refine e_Pn.ret4 rfl ?_
    exact ⟨_, rfl, rfl⟩
  · replace h1 : (y : Int) ≤ x := by have q : ¬ ((y : Int) > x) := h1; omega
    show e_Pn 20 elay kcode eI n d 242 (5, [(0, (0, x)), (1, (0, y)), (2, (0, z))], [], w) _
    refine e_Pn.run (t' := (7, [(0, (0, x)), (1, (0, y)), (2, (0, z))], [(0, z), (0, x)], w)) kAlk 2 rfl ?_
    refine e_Pn.if2 kAlk rfl (fun h2 => ?_) (fun h2 => ?_)
    · replace h2 : (x : Int) > z := h2
      show e_Pn 20 elay kcode eI n d 242 (14, [(0, (0, x)), (1, (0, y)), (2, (0, z))], [], w) _
      refine e_Pn.run (t' := (15, [(0, (0, x)), (1, (0, y)), (2, (0, z))], [(0, 0)], w)) kAlk 1 rfl ?_
      refine e_Pn.ret4 rfl ?_
      exact ⟨_, rfl, rfl⟩
    · replace h2 : (x : Int) ≤ z := by have q : ¬ ((x : Int) > z) := h2; omega
      show e_Pn 20 elay kcode eI n d 242 (10, [(0, (0, x)), (1, (0, y)), (2, (0, z))], [], w) _
      refine e_Pn.run (t' := (15, [(0, (0, x)), (1, (0, y)), (2, (0, z))], [(0, 1)], w)) kAlk 2 rfl ?_
      refine e_Pn.ret4 rfl ?_
      exact ⟨_, rfl, rfl⟩
theorem l_191 {n d : Nat} {w : eW} {a : Int} (h0 : w 0 0 = 1) : e_Pn 20 elay kcode eI n d 191 (0, [(0, (1, 0)), (1, (0, a))], [], w) (fun r w' => ∃ z : Int, r = [(0, z)] ∧ ∀ i, w' 5 i = w 5 i) := by
  refine e_Pn.run (t' := (3, [(0, (1, 0)), (1, (0, a))], [(1, 0), (0, 0), (0, a)], w)) kAlk 3 rfl ?_
  refine e_Pn.getr (z := 1) kAlk rfl rfl (Eq.trans rfl h0) (by omega) ?_
  refine e_Pn.getf (z := w 1 0) kAlk rfl rfl rfl (fun b1 => ?_)
  refine e_Pn.callA (Q' := fun r w' => ∃ z : Int, r = [(0, z)] ∧ w = w') rfl (fun nq dq => l_242) (fun r2 w3 h4 => ?_)
  obtain ⟨z9, rfl, rfl⟩ := h4
  show e_Pn 20 elay kcode eI n d 191 (12, [(0, (1, 0)), (1, (0, a))], [(0, z9)], w) _
  refine e_Pn.if1 kAlk rfl (fun h5 => ?_) (fun h5 => ?_)
  · replace h5 : (z9 : Int) ≠ 0 := h5
    show e_Pn 20 elay kcode eI n d 191 (17, [(0, (1, 0)), (1, (0, a))], [], w) _
    refine e_Pn.run (t' := (18, [(0, (1, 0)), (1, (0, a))], [(1, 0)], w)) kAlk 1 rfl ?_
    refine e_Pn.getr (z := 1) kAlk rfl rfl (Eq.trans rfl h0) (by omega) ?_
    refine e_Pn.run (t' := (22, [(0, (1, 0)), (1, (0, a))], [(1, 1), (1, 1)], w)) kAlk 1 rfl ?_
    refine e_Pn.getf (z := w 1 0) kAlk rfl rfl rfl (fun b6 => ?_)
    refine e_Pn.run (t' := (26, [(0, (1, 0)), (1, (0, a))], [(0, a), (0, w 1 0), (1, 1)], w)) kAlk 1 rfl ?_
    refine e_Pn.bin0 kAlk rfl (fun z7 hz7 => ?_)
    refine e_Pn.putf kAlk rfl rfl ?_
    generalize hw8 : e_up w 1 0 z7 = w8
    refine e_Pn.run (t' := (31, [(0, (1, 0)), (1, (0, a))], [(1, 0)], w8)) kAlk 1 rfl ?_
    refine e_Pn.getr (z := 1) kAlk rfl rfl (Eq.trans (by rw [← hw8]; exact (e_up_ne _ _ (Or.inl (by omega))).trans rfl) h0) (by omega) ?_
    refine e_Pn.getf (z := z7) kAlk rfl rfl (by rw [← hw8]; exact e_up_eq _ _ _ _) (fun b9 => ?_)
    refine e_Pn.ret1 rfl ?_
    exact ⟨_, rfl, fun i => (by rw [← hw8]; exact (e_up_ne _ _ (Or.inl (by decide))).trans rfl)⟩
  · replace h5 : (z9 : Int) = 0 := by have q : ¬ ((z9 : Int) ≠ 0) := h5; omega
    show e_Pn 20 elay kcode eI n d 191 (15, [(0, (1, 0)), (1, (0, a))], [], w) _
    refine e_Pn.run (t' := (16, [(0, (1, 0)), (1, (0, a))], [(0, (-1))], w)) kAlk 1 rfl ?_
    refine e_Pn.ret1 rfl ?_
    exact ⟨_, rfl, fun i => rfl⟩
end
