noncomputable section
/-! statements: the ends of whiles; tries -/
def c3E (w w' : eW) : Prop := ∀ c k, (328 ≤ c ∧ c ≤ 330) ∨ (341 ≤ c ∧ c ≤ 344) → w' c k = w c k
theorem c3E.dq {w w' : eW} (h : c3E w w') (p : Int) : dp w' p = dp w p := dp_eq (fun k _ _ => h 328 _ (by omega))
theorem PI.c3 {w w' : eW} {n nt nt' : Int} {P : Int → Prop} (h : PI w n nt P) (e : c3E w w') (e1 : ∀ t, 0 ≤ t → t < nt → w' 331 (t + 3600) = w 331 (t + 3600)) (hn : nt ≤ nt') : PI w' n nt' P := fun p g1 g2 => by
  obtain ⟨i1, i2, i3⟩ := h p g1 g2
  refine ⟨by rw [e.dq, e 328 _ (by omega), e 329 _ (by omega)]; exact i1, fun q => by rw [e 328 _ (by omega), e 330 _ (by omega)]; exact (i2 q).eq hn (e 328 _ (by omega)) (e 330 _ (by omega)) e1, fun q => ⟨(i3 q).1.eq (Int.le_refl n) (fun k _ _ => e 328 _ (by omega)) (e 329 _ (by omega)) g1, fun k k1 k2 => by rw [e 328 _ (by omega), e 330 _ (by omega)]; exact ((i3 q).2 k k1 k2).eq (e 328 _ (by omega)) (e 329 _ (by omega)) (e 330 _ (by omega)) (e.dq p) (e.dq k)⟩⟩
theorem RQ.c3 {w w' : eW} {n nt nt' o s : Int} {P : Int → Prop} (h : RQ w n nt P o s) (e : c3E w w') (e1 : ∀ t, 0 ≤ t → t < nt → w' 331 (t + 3600) = w 331 (t + 3600)) (hn : nt ≤ nt') : RQ w' n nt' P o s := fun p g1 g2 =>
  ⟨fun q => ((h p g1 g2).1 q).eq hn (e 328 _ (by omega)) (e 330 _ (by omega)) e1, fun q => ((h p g1 g2).2 q).eq (e 328 _ (by omega)) (e 329 _ (by omega)) (e 330 _ (by omega)) (e.dq p) (e.dq n)⟩
theorem NM.c3 {w w' : eW} {N n mm : Int} (h : NM w N n mm) (e : c3E w w') : NM w' N n mm := by
  refine ⟨fun m g1 g2 => ?_, fun p g1 g2 => ?_⟩
  · unfold nmO
    rw [e 341 m (by omega), e 342 m (by omega), e 343 m (by omega), e 344 m (by omega)]
    exact h.1 m g1 g2
  · obtain ⟨q1, q2, q3⟩ := h.2 p g1 g2
    unfold NMp
    rw [e 328 _ (by omega), e 329 _ (by omega)]
    refine ⟨fun g => ?_, fun g => ?_, fun g => (q3 g).imp id (fun ⟨m, m1, m2, m3⟩ => ⟨m, m1, m2, by rw [e 341 m (by omega)]; exact m3⟩)⟩
    · obtain ⟨m, m1, m2, m3, m4⟩ := q1 g
      exact ⟨m, m1, m2, by rw [e 341 m (by omega)]; exact m3, by rw [e 344 m (by omega)]; exact m4⟩
    · obtain ⟨m, m1, m2, m3, m4⟩ := q2 g
      exact ⟨m, m1, m2, by rw [e 341 m (by omega)]; exact m3, by rw [e 344 m (by omega)]; exact m4⟩
/-- a while ends -/
theorem GB.we {w w' : eW} {N n mm nt nw s o j : Int} {P OW : Int → Prop} (h : GB w N n mm nt nw P s (fun v => OW v ∨ v = j) o) (hj : w 335 (j + 3600) = s) (hO : ¬ OW j) (hv : w' 336 (j + 3600) = n) (ho : ∀ c k, (328 ≤ c ∧ c ≤ 336) ∨ (341 ≤ c ∧ c ≤ 344) → ¬ (c = 336 ∧ k = j + 3600) → w' c k = w c k) : GB w' N n mm nt nw P s OW o := by
  obtain ⟨h0, hd, hr⟩ := h
  have hti := h0.ti
  obtain ⟨i1, i2, i3, i4, i5, i6, i7, i8, i9, i10, i11⟩ := h0
  have e3 : c3E w w' := fun c k z => ho c k (by omega) (fun y => by have := y.1; omega)
  have x6 : ∀ c k, 331 ≤ c → c ≤ 335 → w' c k = w c k := fun c k z1 z2 => ho c k (by omega) (fun y => by have := y.1; omega)
  have xv : ∀ v, v ≠ j → w' 336 (v + 3600) = w 336 (v + 3600) := fun v z => ho 336 _ (by omega) (fun y => by have := y.2; omega)
  have e1 : t1E w w' := fun k => x6 331 k (by decide) (by decide)
  have en : ∀ r, enR w' r = enR w r := fun r => enR_eq (x6 332 _ (by decide) (by decide)) (x6 333 _ (by decide) (by decide)) (x6 334 _ (by decide) (by decide))
  have hg : ∀ q r, tgS w n s True q r → tgS w' n s True q r := fun q r g => g.to (Int.le_refl n) (fun k _ _ => e3 328 _ (by omega)) (fun k _ _ => e3 330 _ (by omega)) (fun _ z => ⟨fun y => by omega, fun _ => z⟩)
  -- a try between a region and the while's is over
  have hcl : ∀ R r, -1 ≤ R → R < 3 * nt → anc w R r → anc w r s → r ≠ s → clsT w s (r / 3) ∧ w 334 (r / 3 + 3600) ≤ n := fun R r z1 z2 z3 z4 z5 => by
    have hr1 := anc.le hti z1 z2 z3
    have hr0 : 0 ≤ r := by
      by_cases c : 0 ≤ r
      · exact c
      · have e : r = -1 := by omega
        subst e
        exact absurd z4.neg.symm z5
    have hp := z4.or.resolve_left z5
    have hl := par_lt hti hr0 (by omega)
    have hq := anc.le hti hl.1 (by omega) hp
    have hc : clsT w s (r / 3) := fun i k1 k2 a => by
      have := anc.le hti i6.1.1 i6.1.2 a
      omega
    exact ⟨hc, ((i3 (r / 3) (by omega) (by omega)).2.2.2.2 hc).1.1.2⟩
  refine ⟨⟨⟨i1.1.c3 e3 (fun t _ _ => x6 331 _ (by decide) (by decide)) (Int.le_refl nt), i1.2.c3 e3⟩, fun p g1 g2 => ?_, fun t g1 g2 => ?_, fun v g1 g2 => ?_, fun m g1 g2 g3 => ?_, i6, ⟨fun r g1 g2 => by rw [piR_t1 e1]; exact i7.1 r g1 g2, by rw [piR_t1 e1]; exact i7.2⟩, fun v z => i8 v (Or.inl z), fun z => by rw [e3 328 _ (by omega)]; exact i9 z, i10, i11.eq (fun m _ _ => e3 _ _ (by omega)) (fun m _ _ => e3 _ _ (by omega)) (fun k _ _ => e3 _ _ (by omega)) (Int.le_refl n) (fun _ _ z => z)⟩, by rw [e3.dq]; exact hd, fun q z => (hr q z).c3 e3 (fun t _ _ => x6 331 _ (by decide) (by decide)) (Int.le_refl nt)⟩
  · obtain ⟨q1, q2, q3, q4⟩ := i2 p g1 g2
    unfold plO
    rw [e3 328 _ (by omega), e3 329 _ (by omega), e3 330 _ (by omega), anc_t1 e1, en]
    refine ⟨q1, q2, fun g => (q3 g).imp id (fun ⟨r1, r2, r3⟩ => ⟨r1, ?_, ?_⟩), q4⟩
    · rw [anc_t1 e1, x6 335 _ (by decide) (by decide)]
      exact r2
    · by_cases c : w 329 (p + 40000) = j
      · right
        unfold brO
        rw [c, hv, x6 335 _ (by decide) (by decide), hj]
        refine ⟨g2, fun r z1 z2 z3 => ?_⟩
        rw [anc_t1 e1] at z1 z2
        rw [cls_t1 e1, x6 334 _ (by decide) (by decide)]
        exact hcl _ r q1.1 q1.2 z1 z2 z3
      · refine r3.imp (fun z => z.resolve_right c) (fun ⟨y1, y2⟩ => ?_)
        unfold brO
        rw [xv _ c, x6 335 _ (by decide) (by decide)]
        refine ⟨y1, fun r z1 z2 z3 => ?_⟩
        rw [anc_t1 e1] at z1 z2
        rw [cls_t1 e1, x6 334 _ (by decide) (by decide)]
        exact y2 r z1 z2 z3
  · obtain ⟨q1, q2, q3, q4, q5⟩ := i3 t g1 g2
    unfold tyO
    rw [x6 331 _ (by decide) (by decide), x6 332 _ (by decide) (by decide), x6 333 _ (by decide) (by decide), x6 334 _ (by decide) (by decide), cls_t1 e1, anc_t1 e1, en]
    exact ⟨q1, q2.imp id (hg _ _), q3.imp id (hg _ _), q4, fun g => ⟨hg _ _ (q5 g).1, (q5 g).2⟩⟩
  · obtain ⟨q1, q2, q3⟩ := i4 v g1 g2
    unfold whO
    rw [x6 335 _ (by decide) (by decide), anc_t1 e1]
    refine ⟨q1, fun z => q2 (Or.inl z), fun z => ?_⟩
    by_cases c : v = j
    · subst c
      rw [hv, hj]
      exact ⟨⟨i6.2.1, Int.le_refl n⟩, by rw [e3.dq]; exact hd, fun y => by omega, fun _ => ⟨trivial, rfl⟩⟩
    · rw [xv v c]
      exact hg _ _ (q3 (fun y => y.elim z c))
  · rw [e3 341 _ (by omega)] at g3
    rw [e3 344 _ (by omega)]
    exact hg _ _ (i5 m g1 g2 g3)
/-- a try begins -/
theorem GA.tb {w w' : eW} {N n mm nt nw s o o' : Int} {P OW : Int → Prop} (h : GA w N n mm nt nw P s OW o) (hl : 0 < n ∧ w 328 (n - 1 + 40000) = 30 ∧ w 330 (n - 1 + 40000) = s) (hv : w' 331 (nt + 3600) = s ∧ w' 332 (nt + 3600) = -1 ∧ w' 333 (nt + 3600) = -1) (ho : ∀ c k, (328 ≤ c ∧ c ≤ 336) ∨ (341 ≤ c ∧ c ≤ 344) → ¬ ((331 ≤ c ∧ c ≤ 333) ∧ k = nt + 3600) → w' c k = w c k) (hoo : o + 1 ≤ o' ∧ o' ≤ 30) : GB w' N n mm (nt + 1) nw P (3 * nt) OW o' := by
  obtain ⟨h0, hd, hr⟩ := h
  have hti := h0.ti
  obtain ⟨i1, i2, i3, i4, i5, i6, i7, i8, i9, i10, i11⟩ := h0
  have hnt := i6.2.2.1
  have e3 : c3E w w' := fun c k z => ho c k (by omega) (fun y => by have := y.1; omega)
  have x4 : ∀ c k, 334 ≤ c → c ≤ 336 → w' c k = w c k := fun c k z1 z2 => ho c k (by omega) (fun y => by have := y.1; omega)
  have xt : ∀ c t, 331 ≤ c → c ≤ 333 → t < nt → w' c (t + 3600) = w c (t + 3600) := fun c t z1 z2 z3 => ho c _ (by omega) (fun y => by have := y.2; omega)
  have et : ∀ t, 0 ≤ t → t < nt → w' 331 (t + 3600) = w 331 (t + 3600) := fun t _ z => xt 331 t (by decide) (by decide) z
  have hti' : TI w' (nt + 1) := fun t z1 z2 => by
    by_cases c : t = nt
    · subst c
      rw [hv.1]
      omega
    · rw [et t z1 (by omega)]
      exact hti t z1 (by omega)
  have ea : ∀ r q, -1 ≤ r → r < 3 * nt → (anc w' r q ↔ anc w r q) := fun r q z1 z2 => anc.eq hti et z1 z2
  have en : ∀ r, r < 3 * nt → enR w' r = enR w r := fun r z => enR_eq (xt 332 (r / 3) (by decide) (by decide) (by omega)) (xt 333 (r / 3) (by decide) (by decide) (by omega)) (x4 334 _ (by decide) (by decide))
  have es : ∀ q, anc w' (3 * nt) q ↔ q = 3 * nt ∨ anc w s q := fun q => by
    have := anc.of3 (w := w') (t := nt) (i := 0) (q := q) hnt (by decide) (by decide)
    rw [show 3 * nt + 0 = 3 * nt by omega, hv.1, ea s q i6.1.1 i6.1.2] at this
    exact this
  have hcl : ∀ t, t < nt → (clsT w' (3 * nt) t ↔ clsT w s t) := fun t z => ⟨fun h i k1 k2 a => h i k1 k2 ((es _).2 (Or.inr a)), fun h i k1 k2 a => ((es _).1 a).elim (fun y => by omega) (fun y => h i k1 k2 y)⟩
  have hg : ∀ q r, tgS w n s False q r → tgS w' n (3 * nt) True q r := fun q r g => ⟨g.1, by rw [e3.dq]; exact g.2.1, fun z => by rw [e3 328 _ (by omega), e3 330 _ (by omega)]; exact g.2.2.1 z, fun z => (g.2.2.2 z).1.elim⟩
  have hsp := i7.2
  refine ⟨⟨⟨i1.1.c3 e3 et (by omega), i1.2.c3 e3⟩, fun p g1 g2 => ?_, fun t g1 g2 => ?_, fun v g1 g2 => ?_, fun m g1 g2 g3 => ?_, ⟨⟨by omega, by omega⟩, i6.2.1, by omega, i6.2.2.2.1, i6.2.2.2.2⟩, ⟨fun r g1 g2 => ?_, ?_⟩, i8, fun z => by rw [e3 328 _ (by omega)]; exact i9 z, fun z => by omega, i11.eq (fun m _ _ => e3 _ _ (by omega)) (fun m _ _ => e3 _ _ (by omega)) (fun k _ _ => e3 _ _ (by omega)) (Int.le_refl n) (fun _ _ z => z)⟩, by rw [e3.dq]; exact hd, fun q z => fun p p1 p2 => ⟨fun y => ?_, fun y => ?_⟩⟩
  · obtain ⟨q1, q2, q3, q4⟩ := i2 p g1 g2
    unfold plO
    rw [e3 328 _ (by omega), e3 329 _ (by omega), e3 330 _ (by omega), en _ q1.2]
    refine ⟨⟨q1.1, by omega⟩, q2.imp (fun z => (es _).2 (Or.inr z)) id, fun g => (q3 g).imp id (fun ⟨r1, r2, r3⟩ => ⟨r1, ?_, r3.imp id (fun ⟨y1, y2⟩ => ?_)⟩), fun g => by have := q4 g; omega⟩
    · rw [x4 335 _ (by decide) (by decide)]
      exact (ea _ _ q1.1 q1.2).2 r2
    · unfold brO
      rw [x4 336 _ (by decide) (by decide), x4 335 _ (by decide) (by decide)]
      refine ⟨y1, fun r z1 z2 z3 => ?_⟩
      have z1' := (ea _ _ q1.1 q1.2).1 z1
      have hr1 := anc.le hti q1.1 q1.2 z1'
      rw [x4 334 _ (by decide) (by decide)]
      have := y2 r z1' ((ea _ _ hr1.1 (by omega)).1 z2) z3
      exact ⟨(hcl _ (by omega)).2 this.1, this.2⟩
  · unfold tyO
    by_cases c : t = nt
    · subst c
      rw [hv.1, hv.2.1, hv.2.2]
      exact ⟨⟨i6.1.1, i6.1.2⟩, Or.inl (by decide), Or.inl (by decide), Or.inl (by decide), fun z => absurd (anc.refl w' (3 * t)) (by have := z 0 (by decide) (by decide); rw [show 3 * t + 0 = 3 * t by omega] at this; exact this)⟩
    · have tn : t < nt := by omega
      obtain ⟨q1, q2, q3, q4, q5⟩ := i3 t g1 tn
      rw [xt 331 t (by decide) (by decide) tn, xt 332 t (by decide) (by decide) tn, xt 333 t (by decide) (by decide) tn, x4 334 _ (by decide) (by decide), en (w 331 (t + 3600)) (by omega)]
      refine ⟨q1, q2.imp id (hg _ _), q3.imp id (hg _ _), q4, fun g => ?_⟩
      obtain ⟨y1, y2, y3⟩ := q5 ((hcl t tn).1 g)
      exact ⟨hg _ _ y1, y2, y3.imp (fun z => (es _).2 (Or.inr z)) id⟩
  · obtain ⟨q1, q2, q3⟩ := i4 v g1 g2
    unfold whO
    rw [x4 335 _ (by decide) (by decide), x4 336 _ (by decide) (by decide)]
    exact ⟨⟨q1.1, by omega⟩, fun z => (es _).2 (Or.inr (q2 z)), fun z => hg _ _ (q3 z)⟩
  · rw [e3 341 _ (by omega)] at g3
    rw [e3 344 _ (by omega)]
    exact hg _ _ (i5 m g1 g2 g3)
  · by_cases c : r < 3 * nt
    · rw [piR_eq hti et g1 c]
      exact i7.1 r g1 c
    · rw [piR_step hti' (by omega) g2, show r / 3 = nt by omega, hv.1, piR_eq hti et i6.1.1 i6.1.2]
      by_cases c2 : r % 3 = 2
      · rw [if_pos c2]; omega
      · rw [if_neg c2]; omega
  · rw [piR_step (r := 3 * nt) hti' (by omega) (by omega), show 3 * nt / 3 = nt by omega, hv.1, piR_eq hti et i6.1.1 i6.1.2, if_neg (by omega)]
    omega
  · have ep : p = n - 1 := by omega
    subst ep
    unfold iNx
    rw [e3 328 _ (by omega), e3 330 _ (by omega), hl.2.1, hl.2.2]
    exact ⟨fun z => by omega, fun z => by omega, fun _ => Or.inr ⟨nt, hnt, by omega, rfl, hv.1⟩⟩
  · intro y2
    rw [e3 329 _ (by omega)] at y2
    rw [e3 328 _ (by omega)]
    have ht := ((i1.1 p p1 p2).2.2 y).1
    have ra := (hr 30 p p1 p2).2 y y2
    have rb := (hr 1 p p1 p2).2 y y2
    refine ⟨fun z => ?_, fun z => ?_, fun z => ?_⟩
    · exact absurd (ra.1 z).2.1 (by decide)
    · have := ht.2.1 z
      omega
    · exact absurd (rb.2.2 z).2.1 (by decide)
end
