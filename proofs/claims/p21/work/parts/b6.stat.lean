noncomputable section
/-! statements: names, tries and whiles -/
/-- what is emitted looks at these cells alone -/
def p8E (w w' : eW) : Prop := ∀ c k, 328 ≤ c → c ≤ 336 → w' c k = w c k
theorem p8E.tb {w w' : eW} (e : p8E w w') : tbE w w' := fun c k g1 g2 => e c k (by omega) g2
theorem p8E.dq {w w' : eW} (h : p8E w w') (p : Int) : dp w' p = dp w p := dp_eq (fun k _ _ => h 328 _ (by decide) (by decide))
theorem PI.p8 {w w' : eW} {n nt : Int} {P : Int → Prop} (h : PI w n nt P) (e : p8E w w') : PI w' n nt P := fun p g1 g2 => by
  obtain ⟨i1, i2, i3⟩ := h p g1 g2
  refine ⟨by rw [e.dq, e 328 _ (by decide) (by decide), e 329 _ (by decide) (by decide)]; exact i1, fun q => by rw [e 328 _ (by decide) (by decide), e 330 _ (by decide) (by decide)]; exact (i2 q).eq (Int.le_refl nt) (e 328 _ (by decide) (by decide)) (e 330 _ (by decide) (by decide)) (fun t _ _ => e 331 _ (by decide) (by decide)), fun q => ⟨(i3 q).1.eq (Int.le_refl n) (fun k _ _ => e 328 _ (by decide) (by decide)) (e 329 _ (by decide) (by decide)) g1, fun k k1 k2 => by rw [e 328 _ (by decide) (by decide), e 330 _ (by decide) (by decide)]; exact ((i3 q).2 k k1 k2).eq (e 328 _ (by decide) (by decide)) (e 329 _ (by decide) (by decide)) (e 330 _ (by decide) (by decide)) (e.dq p) (e.dq k)⟩⟩
theorem RQ.p8 {w w' : eW} {n nt o s : Int} {P : Int → Prop} (h : RQ w n nt P o s) (e : p8E w w') : RQ w' n nt P o s := fun p g1 g2 =>
  ⟨fun q => ((h p g1 g2).1 q).eq (Int.le_refl nt) (e 328 _ (by decide) (by decide)) (e 330 _ (by decide) (by decide)) (fun t _ _ => e 331 _ (by decide) (by decide)), fun q => ((h p g1 g2).2 q).eq (e 328 _ (by decide) (by decide)) (e 329 _ (by decide) (by decide)) (e 330 _ (by decide) (by decide)) (e.dq p) (e.dq n)⟩
/-- one name more, and nothing else -/
def NO (w w' : eW) (mm : Int) : Prop := ∀ c k, ¬ (((341 ≤ c ∧ c ≤ 344) ∧ k = mm) ∨ (c = 275 ∧ k = 94)) → w' c k = w c k
theorem NO.p8 {w w' : eW} {mm : Int} (h : NO w w' mm) : p8E w w' := fun c k g1 g2 => h c k (by omega)
theorem NM.note {w w' : eW} {N n mm : Int} (h : NM w N n mm) (ho : NO w w' mm) (hv : nmO w' N n mm) : NM w' N n (mm + 1) := by
  have e : ∀ c m, 341 ≤ c → c ≤ 344 → m ≠ mm → w' c m = w c m := fun c m q1 q2 q3 => ho c m (by omega)
  have e8 : ∀ p, w' 328 p = w 328 p := fun p => ho 328 p (by omega)
  have e9 : ∀ p, w' 329 p = w 329 p := fun p => ho 329 p (by omega)
  refine ⟨fun m g1 g2 => ?_, fun p g1 g2 => ?_⟩
  · by_cases c : m = mm
    · subst c
      exact hv
    · unfold nmO
      rw [e 341 m (by decide) (by decide) c, e 342 m (by decide) (by decide) c, e 343 m (by decide) (by decide) c, e 344 m (by decide) (by decide) c]
      exact h.1 m g1 (by omega)
  · obtain ⟨q1, q2, q3⟩ := h.2 p g1 g2
    unfold NMp
    rw [e8, e9]
    refine ⟨fun g => ?_, fun g => ?_, fun g => (q3 g).imp id (fun ⟨m, m1, m2, m3⟩ => ⟨m, m1, by omega, by rw [e 341 m (by decide) (by decide) (by omega)]; exact m3⟩)⟩
    · obtain ⟨m, m1, m2, m3, m4⟩ := q1 g
      exact ⟨m, m1, by omega, by rw [e 341 m (by decide) (by decide) (by omega)]; exact m3, by rw [e 344 m (by decide) (by decide) (by omega)]; exact m4⟩
    · obtain ⟨m, m1, m2, m3, m4⟩ := q2 g
      exact ⟨m, m1, by omega, by rw [e 341 m (by decide) (by decide) (by omega)]; exact m3, by rw [e 344 m (by decide) (by decide) (by omega)]; exact m4⟩
theorem GI.note {w w' : eW} {N n mm nt nw s o : Int} {P P' OW : Int → Prop} {b : Prop} (h : GI w N n mm nt nw P s OW o b) (ho : NO w w' mm) (hv : nmO w' N n mm) (h1 : w' 341 mm = 1 → tgS w' n s b (w' 344 mm) (-1)) (hP : ∀ p, 0 ≤ p → (P' p ↔ P p)) (hP2 : ∀ p, p < 0 → P p → P' p) (h2 : w' 341 mm = 2 ∨ w' 341 mm = 3 → P' (-2 - 2 * mm)) : GI w' N n (mm + 1) nt nw P' s OW o b := by
  have e := ho.p8
  refine h.grow e.tb (Int.le_refl n) (by omega) (fun k _ _ => e _ _ (by decide) (by decide)) (fun k _ _ => e _ _ (by decide) (by decide)) (fun k _ _ _ => e _ _ (by decide) (by decide)) ((h.1.1.p8 e).cg hP) (h.1.2.note ho hv) (fun z => ⟨fun g => by omega, fun _ => z⟩) (fun p g1 g2 => by omega) (fun m g1 g2 g => ⟨by rw [← ho 341 m (by omega)]; exact g, ho 344 m (by omega)⟩) (fun m g1 g2 g => ?_) (fun m g1 g2 g => ?_)
  · have em : m = mm := by omega
    subst em
    exact h1 g
  · by_cases c : m < mm
    · rw [ho 341 m (by omega)] at g
      exact (h.2.2.2.2.2.2.2.2.2.2 m g1 c g).imp (hP2 _ (by omega)) (fun z => z.eq (ho 341 m (by omega)) (ho 344 m (by omega)) (fun k _ _ => e _ _ (by decide) (by decide)) (Int.le_refl n))
    · have em : m = mm := by omega
      subst em
      exact Or.inl (h2 g)
theorem GA.note {w w' : eW} {N n mm nt nw s o : Int} {P OW : Int → Prop} (h : GA w N n mm nt nw P s OW o) (ho : NO w w' mm) (hv : nmO w' N n mm) (h1 : w' 341 mm ≠ 1) (h0 : 0 ≤ mm) : GA w' N n (mm + 1) nt nw (fun p => P p ∨ p = -2 - 2 * mm) s OW o := by
  have hP : ∀ p, 0 ≤ p → ((P p ∨ p = -2 - 2 * mm) ↔ P p) := fun p g => ⟨fun z => z.resolve_right (by omega), Or.inl⟩
  exact ⟨h.1.note ho hv (fun g => absurd g h1) hP (fun p _ z => Or.inl z) (fun _ => Or.inr rfl), by rw [ho.p8.dq]; exact h.2.1, fun q => ((h.2.2 q).p8 ho.p8).cg hP⟩
theorem GA.note4 {w w' : eW} {N n mm nt nw s o : Int} {P OW : Int → Prop} (h : GA w N n mm nt nw P s OW o) (ho : NO w w' mm) (hv : nmO w' N n mm) (h1 : w' 341 mm = 4) : GA w' N n (mm + 1) nt nw P s OW o :=
  ⟨h.1.note ho hv (fun g => by omega) (fun _ _ => Iff.rfl) (fun _ _ z => z) (fun g => by omega), by rw [ho.p8.dq]; exact h.2.1, fun q => (h.2.2 q).p8 ho.p8⟩
theorem GB.note {w w' : eW} {N n mm nt nw s o : Int} {P OW : Int → Prop} (h : GB w N n mm nt nw P s OW o) (ho : NO w w' mm) (hv : nmO w' N n mm) (h1 : w' 341 mm = 0 ∨ (w' 341 mm = 1 ∧ w' 344 mm = n ∧ s = -1)) : GB w' N n (mm + 1) nt nw P s OW o := by
  refine ⟨h.1.note ho hv (fun g => ?_) (fun _ _ => Iff.rfl) (fun _ _ z => z) (fun g => by omega), by rw [ho.p8.dq]; exact h.2.1, fun q z => (h.2.2 q z).p8 ho.p8⟩
  obtain ⟨y1, y2⟩ := (h1.resolve_left (by omega)).2
  have hn : 0 ≤ n := h.1.2.2.2.2.2.1.2.1
  rw [y1]
  exact ⟨⟨hn, Int.le_refl n⟩, by rw [ho.p8.dq]; exact h.2.1, fun z => by omega, fun _ => ⟨trivial, y2⟩⟩
/-- a statement that ends with a name: call, run, watch -/
theorem GS.call {w w1 w' : eW} {N n mm nt nw s o d q ta te : Int} {P OW : Int → Prop} (h : GS w N n mm nt nw P s OW o d) (he : EM w w1 n q 0 s) (hq : q = 38 ∨ q = 39 ∨ q = 44) (hw : iOw d q 0) (hv : w' 341 mm = 3 ∧ w' 342 mm = ta ∧ w' 343 mm = te - ta ∧ w' 344 mm = n) (ho : NO w1 w' mm) (ht : 0 ≤ ta ∧ ta ≤ te ∧ te ≤ N) (hN : N ≤ 4000) : GB w' N (n + 1) (mm + 1) nt nw P s OW o := by
  obtain ⟨g1, ⟨g2, g3⟩, g4⟩ := h
  have hn : 0 ≤ n := g1.2.2.2.2.2.1.2.1
  have hm : 0 ≤ mm := g1.2.2.2.2.2.1.2.2.2.2
  have hs : sgO q = 1 := sg_op (by omega)
  have nj : ¬ iJp q := by unfold iJp; omega
  have e := ho.p8
  have hP := (g1.1.1.em (g4 q hs) he hn (by rw [g2]; exact hw) (fun p _ g => g) (fun p _ g => g) (fun _ => ⟨to_not he.2.1 nj, fun k _ _ => go_not he.2.1 nj⟩)).p8 e
  have f8 : ∀ c k, 328 ≤ c → c ≤ 330 → k < n → w' c (k + 40000) = w c (k + 40000) := fun c k c1 c2 g => (e c _ c1 (by omega)).trans (he.1 c _ (by omega))
  refine ⟨g1.grow (fun c k z1 z2 => (e c k (by omega) z2).trans (he.1 c k (by omega))) (by omega) (by omega) (fun k _ g => f8 328 k (by decide) (by decide) g) (fun k _ g => f8 330 k (by decide) (by decide) g) (fun k _ g _ => f8 329 k (by decide) (by decide) g) hP (g1.1.2.name he hn hm hv ho ht hN (Or.inr ⟨rfl, hq⟩)) (fun z => z.elim) (fun p z1 z2 => ?_) (fun m z1 z2 z => ⟨by rw [← he.1 341 m (by omega), ← ho 341 m (by omega)]; exact z, (ho 344 m (by omega)).trans (he.1 344 m (by omega))⟩) (fun m z1 z2 z => ?_) (fun m z1 z2 z => ?_), by rw [e.dq, he.dq1 hn, nxD_no (by omega)], fun q' g => (RQ.em (o' := q') (s' := s) g1.1.1 he hn (fun p _ g => g) (fun p _ g => g) ?_ (fun _ => go_not he.2.1 nj)).p8 e⟩
  · have ep : p = n := by omega
    subst ep
    unfold plO
    rw [e 328 _ (by decide) (by decide), e 330 _ (by decide) (by decide), he.2.1, he.2.2.2.1]
    exact ⟨g1.2.2.2.2.2.1.1, Or.inl (anc.refl w' s), fun g => by omega, fun g => by omega⟩
  · have em : m = mm := by omega
    subst em
    rw [hv.1] at z
    exact absurd z (by decide)
  · by_cases c : m < mm
    · have k1 : w' 341 m = w 341 m := (ho 341 m (by omega)).trans (he.1 341 m (by omega))
      rw [k1] at z
      exact (g1.2.2.2.2.2.2.2.2.2.2 m z1 c z).imp id (fun y => y.eq k1 ((ho 344 m (by omega)).trans (he.1 344 m (by omega))) (fun k _ g => f8 328 k (by decide) (by decide) g) (by omega))
    · have em : m = mm := by omega
      subst em
      right
      unfold nmK
      rw [hv.1, hv.2.2.2, e 328 _ (by decide) (by decide), he.2.1]
      exact ⟨by omega, fun y => by omega, fun _ => hq⟩
  · unfold iNx
    rw [he.2.1, he.2.2.2.1]
    exact ⟨fun z => by omega, fun _ => ⟨g, rfl⟩, fun z => by omega⟩
/-- a number is kept under a name -/
theorem GS.store {w w1 w' : eW} {N n mm nt nw s o j : Int} {P OW : Int → Prop} (h : GS w N n mm nt nw (fun p => P p ∨ p = -2 - 2 * j) s OW o 1) (he : EM w w1 n 31 0 s) (hw : e_up w1 344 j n = w') (hj : 0 ≤ j ∧ j < mm) (h1 : w 341 j = 2) (h4 : w 344 j = 0) : GB w' N (n + 1) mm nt nw P s OW o := by
  obtain ⟨g1, ⟨g2, g3⟩, g4⟩ := h
  have hn : 0 ≤ n := g1.2.2.2.2.2.1.2.1
  have nj : ¬ iJp 31 := by unfold iJp; omega
  have hPP : ∀ p, 0 ≤ p → (P p ↔ (P p ∨ p = -2 - 2 * j)) := fun p g => ⟨Or.inl, fun z => z.resolve_right (by omega)⟩
  have x4 : ∀ c k, c ≠ 344 → w' c k = w1 c k := fun c k g => by rw [← hw]; exact e_up_ne _ _ (Or.inl g)
  have e : p8E w1 w' := fun c k z1 z2 => x4 c k (by omega)
  have xm : ∀ m, m ≠ j → w' 344 m = w 344 m := fun m g => by rw [← hw, e_up_ne _ _ (Or.inr g)]; exact he.1 344 m (by omega)
  have xj : w' 344 j = n := by rw [← hw]; exact e_up_eq _ _ _ _
  have xk : ∀ c m, 341 ≤ c → c ≤ 343 → w' c m = w c m := fun c m z1 z2 => (x4 c m (by omega)).trans (he.1 c m (by omega))
  have hP := ((g1.1.1.em (g4 31 (sg_op (by omega))) he hn (by rw [g2]; unfold iOw; omega) (fun p _ g => g) (fun p _ g => g) (fun _ => ⟨to_not he.2.1 nj, fun k _ _ => go_not he.2.1 nj⟩)).p8 e).cg hPP
  have f8 : ∀ c k, 328 ≤ c → c ≤ 330 → k < n → w' c (k + 40000) = w c (k + 40000) := fun c k c1 c2 g => (e c _ c1 (by omega)).trans (he.1 c _ (by omega))
  have z0 : ∀ p, 0 ≤ p → p < n → sgO (w 328 (p + 40000)) = 1 → ∀ m, w 344 m = p → m ≠ j := fun p p1 p2 p3 m p4 c => by
    rw [c, h4] at p4
    subst p4
    have := g1.2.2.2.2.2.2.2.2.1 (by omega)
    rw [show (0 : Int) + 40000 = 40000 by decide, this] at p3
    exact absurd p3 (by decide)
  have hN : NM w' N (n + 1) mm := by
    refine ⟨fun m m1 m2 => ?_, fun p p1 p2 => ?_⟩
    · obtain ⟨q1, q2, q3⟩ := g1.1.2.1 m m1 m2
      unfold nmO
      rw [xk 341 m (by decide) (by decide), xk 342 m (by decide) (by decide), xk 343 m (by decide) (by decide)]
      by_cases c : m = j
      · subst c
        rw [xj]
        exact ⟨q1, q2, fun z => by have := q3 z; omega⟩
      · rw [xm m c]
        exact ⟨q1, q2, fun z => by have := q3 z; omega⟩
    · unfold NMp
      by_cases c : p = n
      · subst c
        rw [e 328 _ (by decide) (by decide), he.2.1]
        exact ⟨fun _ => ⟨j, hj.1, hj.2, by rw [xk 341 j (by decide) (by decide)]; exact h1, xj⟩, fun z => by omega, fun z => by omega⟩
      · have pn : p < n := by omega
        obtain ⟨r1, r2, r3⟩ := g1.1.2.2 p p1 pn
        rw [f8 328 p (by decide) (by decide) pn, f8 329 p (by decide) (by decide) pn]
        refine ⟨fun z => ?_, fun z => ?_, fun z => (r3 z).imp id (fun ⟨m, m1, m2, m3⟩ => ⟨m, m1, m2, by rw [xk 341 m (by decide) (by decide)]; exact m3⟩)⟩
        · obtain ⟨m, m1, m2, m3, m4⟩ := r1 z
          exact ⟨m, m1, m2, by rw [xk 341 m (by decide) (by decide)]; exact m3, by rw [xm m (z0 p p1 pn (by unfold sgO; rw [if_pos (by omega)]) m m4)]; exact m4⟩
        · obtain ⟨m, m1, m2, m3, m4⟩ := r2 z
          exact ⟨m, m1, m2, by rw [xk 341 m (by decide) (by decide)]; exact m3, by rw [xm m (z0 p p1 pn (by unfold sgO; rw [if_pos (by omega)]) m m4)]; exact m4⟩
  refine ⟨g1.grow (fun c k z1 z2 => (e c k (by omega) z2).trans (he.1 c k (by omega))) (by omega) (Int.le_refl mm) (fun k _ g => f8 328 k (by decide) (by decide) g) (fun k _ g => f8 330 k (by decide) (by decide) g) (fun k _ g _ => f8 329 k (by decide) (by decide) g) hP hN (fun z => z.elim) (fun p z1 z2 => ?_) (fun m z1 z2 z => ?_) (fun m z1 z2 => by omega) (fun m z1 z2 z => ?_), by rw [e.dq, he.dq1 hn, nxD_no (by decide)], fun q' g => ((RQ.em (o' := q') (s' := s) g1.1.1 he hn (fun p _ g => g) (fun p _ g => g) ?_ (fun _ => go_not he.2.1 nj)).p8 e).cg hPP⟩
  · have ep : p = n := by omega
    subst ep
    unfold plO
    rw [e 328 _ (by decide) (by decide), e 330 _ (by decide) (by decide), he.2.1, he.2.2.2.1]
    exact ⟨g1.2.2.2.2.2.1.1, Or.inl (anc.refl w' s), fun g => by omega, fun g => by omega⟩
  · rw [xk 341 m (by decide) (by decide)] at z
    exact ⟨z, xm m (fun c => by subst c; omega)⟩
  · by_cases c : m = j
    · subst c
      right
      unfold nmK
      rw [xj, xk 341 m (by decide) (by decide), e 328 _ (by decide) (by decide), he.2.1]
      exact ⟨by omega, fun _ => Or.inr rfl, fun y => by omega⟩
    · rw [xk 341 m (by decide) (by decide)] at z
      exact (g1.2.2.2.2.2.2.2.2.2.2 m z1 z2 z).imp (fun y => y.resolve_right (by omega)) (fun y => y.eq (xk 341 m (by decide) (by decide)) (xm m c) (fun k _ g => f8 328 k (by decide) (by decide) g) (by omega))
  · unfold iNx
    rw [he.2.1, he.2.2.2.1]
    exact ⟨fun z => by omega, fun _ => ⟨g, rfl⟩, fun z => by omega⟩
/-- a while begins -/
theorem GI.wb {w w' : eW} {N n mm nt nw s o : Int} {P OW : Int → Prop} {b : Prop} (h : GI w N n mm nt nw P s OW o b) (hv : w' 335 (nw + 3600) = s) (ho : ∀ c k, (328 ≤ c ∧ c ≤ 336) ∨ (341 ≤ c ∧ c ≤ 344) → ¬ (c = 335 ∧ k = nw + 3600) → w' c k = w c k) : GI w' N n mm nt (nw + 1) P s (fun v => OW v ∨ v = nw) o b := by
  obtain ⟨i1, i2, i3, i4, i5, i6, i7, i8, i9, i10, i11⟩ := h
  have x5 : ∀ c k, (328 ≤ c ∧ c ≤ 336) ∨ (341 ≤ c ∧ c ≤ 344) → c ≠ 335 → w' c k = w c k := fun c k z1 z2 => ho c k z1 (fun y => z2 y.1)
  have xv : ∀ v, v ≠ nw → w' 335 (v + 3600) = w 335 (v + 3600) := fun v z => ho 335 _ (by omega) (fun y => by have := y.2; omega)
  have e1 : t1E w w' := fun k => x5 331 k (by omega) (by decide)
  have ed : ∀ p, dp w' p = dp w p := fun p => dp_eq (fun k _ _ => x5 328 _ (by omega) (by decide))
  have en : ∀ r, enR w' r = enR w r := fun r => enR_eq (x5 332 _ (by omega) (by decide)) (x5 333 _ (by omega) (by decide)) (x5 334 _ (by omega) (by decide))
  have hg : ∀ q r, tgS w n s b q r → tgS w' n s b q r := fun q r g => g.to (Int.le_refl n) (fun k _ _ => x5 328 _ (by omega) (by decide)) (fun k _ _ => x5 330 _ (by omega) (by decide)) (fun _ z => ⟨fun y => by omega, fun _ => z⟩)
  have hP : PI w' n nt P := fun p g1 g2 => by
    obtain ⟨j1, j2, j3⟩ := i1.1 p g1 g2
    refine ⟨by rw [ed, x5 328 _ (by omega) (by decide), x5 329 _ (by omega) (by decide)]; exact j1, fun q => by rw [x5 328 _ (by omega) (by decide), x5 330 _ (by omega) (by decide)]; exact (j2 q).eq (Int.le_refl nt) (x5 328 _ (by omega) (by decide)) (x5 330 _ (by omega) (by decide)) (fun t _ _ => x5 331 _ (by omega) (by decide)), fun q => ⟨(j3 q).1.eq (Int.le_refl n) (fun k _ _ => x5 328 _ (by omega) (by decide)) (x5 329 _ (by omega) (by decide)) g1, fun k k1 k2 => by rw [x5 328 _ (by omega) (by decide), x5 330 _ (by omega) (by decide)]; exact ((j3 q).2 k k1 k2).eq (x5 328 _ (by omega) (by decide)) (x5 329 _ (by omega) (by decide)) (x5 330 _ (by omega) (by decide)) (ed p) (ed k)⟩⟩
  have hN : NM w' N n mm := by
    refine ⟨fun m m1 m2 => ?_, fun p p1 p2 => ?_⟩
    · unfold nmO
      rw [x5 341 m (by omega) (by decide), x5 342 m (by omega) (by decide), x5 343 m (by omega) (by decide), x5 344 m (by omega) (by decide)]
      exact i1.2.1 m m1 m2
    · obtain ⟨r1, r2, r3⟩ := i1.2.2 p p1 p2
      unfold NMp
      rw [x5 328 _ (by omega) (by decide), x5 329 _ (by omega) (by decide)]
      refine ⟨fun z => ?_, fun z => ?_, fun z => (r3 z).imp id (fun ⟨m, m1, m2, m3⟩ => ⟨m, m1, m2, by rw [x5 341 m (by omega) (by decide)]; exact m3⟩)⟩
      · obtain ⟨m, m1, m2, m3, m4⟩ := r1 z
        exact ⟨m, m1, m2, by rw [x5 341 m (by omega) (by decide)]; exact m3, by rw [x5 344 m (by omega) (by decide)]; exact m4⟩
      · obtain ⟨m, m1, m2, m3, m4⟩ := r2 z
        exact ⟨m, m1, m2, by rw [x5 341 m (by omega) (by decide)]; exact m3, by rw [x5 344 m (by omega) (by decide)]; exact m4⟩
  refine ⟨⟨hP, hN⟩, fun p g1 g2 => ?_, fun t g1 g2 => ?_, fun v g1 g2 => ?_, fun m g1 g2 g3 => ?_, ⟨i6.1, i6.2.1, i6.2.2.1, by omega, i6.2.2.2.2⟩, ⟨fun r g1 g2 => by rw [piR_t1 e1]; exact i7.1 r g1 g2, by rw [piR_t1 e1]; exact i7.2⟩, fun v z => ?_, fun z => by rw [x5 328 _ (by omega) (by decide)]; exact i9 z, i10, i11.eq (fun m _ _ => x5 _ _ (by omega) (by decide)) (fun m _ _ => x5 _ _ (by omega) (by decide)) (fun k _ _ => x5 _ _ (by omega) (by decide)) (Int.le_refl n) (fun _ _ z => z)⟩
  · obtain ⟨q1, q2, q3, q4⟩ := i2 p g1 g2
    unfold plO
    rw [x5 328 _ (by omega) (by decide), x5 329 _ (by omega) (by decide), x5 330 _ (by omega) (by decide), anc_t1 e1, en]
    refine ⟨q1, q2, fun g => (q3 g).imp id (fun ⟨r1, r2, r3⟩ => ⟨by omega, ?_, r3.imp Or.inl (fun ⟨y1, y2⟩ => ?_)⟩), q4⟩
    · rw [anc_t1 e1, xv _ (by omega)]
      exact r2
    · unfold brO
      rw [x5 336 _ (by omega) (by decide), xv _ (by omega)]
      refine ⟨y1, fun r z1 z2 z3 => ?_⟩
      rw [anc_t1 e1] at z1 z2
      rw [cls_t1 e1, x5 334 _ (by omega) (by decide)]
      exact y2 r z1 z2 z3
  · obtain ⟨q1, q2, q3, q4, q5⟩ := i3 t g1 g2
    unfold tyO
    rw [x5 331 _ (by omega) (by decide), x5 332 _ (by omega) (by decide), x5 333 _ (by omega) (by decide), x5 334 _ (by omega) (by decide), cls_t1 e1, anc_t1 e1, en]
    exact ⟨q1, q2.imp id (hg _ _), q3.imp id (hg _ _), q4, fun g => ⟨hg _ _ (q5 g).1, (q5 g).2⟩⟩
  · unfold whO
    by_cases c : v = nw
    · subst c
      rw [hv]
      exact ⟨i6.1, fun _ => anc.refl w' s, fun z => absurd (Or.inr rfl) z⟩
    · obtain ⟨q1, q2, q3⟩ := i4 v g1 (by omega)
      rw [xv v c, x5 336 _ (by omega) (by decide), anc_t1 e1]
      exact ⟨q1, fun z => q2 (z.resolve_right c), fun z => hg _ _ (q3 (fun y => z (Or.inl y)))⟩
  · rw [x5 341 _ (by omega) (by decide)] at g3
    rw [x5 344 _ (by omega) (by decide)]
    exact hg _ _ (i5 m g1 g2 g3)
  · rcases z with z | z
    · have := i8 v z
      omega
    · have := i6.2.2.2.1
      omega
theorem GB.wb {w w' : eW} {N n mm nt nw s o : Int} {P OW : Int → Prop} (h : GB w N n mm nt nw P s OW o) (hv : w' 335 (nw + 3600) = s) (ho : ∀ c k, (328 ≤ c ∧ c ≤ 336) ∨ (341 ≤ c ∧ c ≤ 344) → ¬ (c = 335 ∧ k = nw + 3600) → w' c k = w c k) : GB w' N n mm nt (nw + 1) P s (fun v => OW v ∨ v = nw) o := by
  have x5 : ∀ c k, 328 ≤ c → c ≤ 331 → w' c k = w c k := fun c k z1 z2 => ho c k (by omega) (fun y => by have := y.1; omega)
  have ed : ∀ p, dp w' p = dp w p := fun p => dp_eq (fun k _ _ => x5 328 _ (by decide) (by decide))
  exact ⟨h.1.wb hv ho, by rw [ed]; exact h.2.1, fun q z => fun p g1 g2 => ⟨fun y => ((h.2.2 q z p g1 g2).1 y).eq (Int.le_refl nt) (x5 328 _ (by decide) (by decide)) (x5 330 _ (by decide) (by decide)) (fun t _ _ => x5 331 _ (by decide) (by decide)), fun y => ((h.2.2 q z p g1 g2).2 y).eq (x5 328 _ (by decide) (by decide)) (x5 329 _ (by decide) (by decide)) (x5 330 _ (by decide) (by decide)) (ed p) (ed n)⟩⟩
end
