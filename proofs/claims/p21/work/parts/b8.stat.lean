noncomputable section
/-! statements: the parts of a try -/
theorem enR_0 (w : eW) (t : Int) : enR w (3 * t) = if 0 ≤ w 332 (t + 3600) then w 332 (t + 3600) else if 0 ≤ w 333 (t + 3600) then w 333 (t + 3600) else w 334 (t + 3600) := by
  unfold enR
  rw [show 3 * t % 3 = 0 by omega, show 3 * t / 3 = t by omega]
  by_cases c : 0 ≤ w 332 (t + 3600)
  · rw [if_pos c, if_pos ⟨rfl, c⟩]
  · rw [if_neg c, if_neg (fun z => c z.2)]
    by_cases c2 : 0 ≤ w 333 (t + 3600)
    · rw [if_pos c2, if_pos ⟨by decide, c2⟩]
    · rw [if_neg c2, if_neg (fun z => c2 z.2)]
theorem enR_1 (w : eW) (t : Int) : enR w (3 * t + 1) = if 0 ≤ w 333 (t + 3600) then w 333 (t + 3600) else w 334 (t + 3600) := by
  unfold enR
  rw [show (3 * t + 1) % 3 = 1 by omega, show (3 * t + 1) / 3 = t by omega]
  rw [if_neg (fun z => absurd z.1 (by decide))]
  by_cases c2 : 0 ≤ w 333 (t + 3600)
  · rw [if_pos c2, if_pos ⟨by decide, c2⟩]
  · rw [if_neg c2, if_neg (fun z => c2 z.2)]
theorem enR_2 (w : eW) (t : Int) : enR w (3 * t + 2) = w 334 (t + 3600) := by
  unfold enR
  rw [show (3 * t + 2) % 3 = 2 by omega, show (3 * t + 2) / 3 = t by omega]
  rw [if_neg (fun z => absurd z.1 (by decide)), if_neg (fun z => absurd z.1 (by decide))]
/-- from the part s1 of the try t to another part, or out of it (s2), where the place n is noted in the cell g -/
theorem GZ.turn {w w' : eW} {N n mm nt nw s1 s2 o t i1 g : Int} {P OW : Int → Prop} (h : GZ w N n mm nt nw P s1 OW o) (ht : 0 ≤ t ∧ t < nt) (hs1 : s1 = 3 * t + i1) (hi1 : 0 ≤ i1 ∧ i1 ≤ 2) (hs2 : s2 = w 331 (t + 3600) ∨ ((∃ i, 0 ≤ i ∧ i ≤ 2 ∧ s2 = 3 * t + i))) (hgg : 332 ≤ g ∧ g ≤ 334) (ho : ∀ c k, (328 ≤ c ∧ c ≤ 336) ∨ (341 ≤ c ∧ c ≤ 344) → ¬ (c = g ∧ k = t + 3600) → w' c k = w c k)
    (hE : ∀ i, 0 ≤ i → i ≤ 2 → 3 * t + i = s2 ∨ enR w' (3 * t + i) = n ∨ (enR w' (3 * t + i) = enR w (3 * t + i) ∧ 3 * t + i ≠ s1)) (hO : ∀ v, OW v → anc w (w 331 (t + 3600)) (w 335 (v + 3600))) (hpi : piR w (w 331 (t + 3600)) + 1 ≤ o) (hT : tyO w' n s2 True t) : GB w' N n mm nt nw P s2 OW o := by
  obtain ⟨h0, hd, hr⟩ := h
  have hti := h0.ti
  obtain ⟨i1', i2, i3, i4, i5, i6, i7, i8, i9, i10, i11⟩ := h0
  have hta := hti t ht.1 ht.2
  have e3 : c3E w w' := fun c k z => ho c k (by omega) (fun y => by have := y.1; omega)
  have x1 : ∀ k, w' 331 k = w 331 k := fun k => ho 331 k (by omega) (fun y => by have := y.1; omega)
  have x5 : ∀ c k, 335 ≤ c → c ≤ 336 → w' c k = w c k := fun c k z1 z2 => ho c k (by omega) (fun y => by have := y.1; omega)
  have xt : ∀ c t', 332 ≤ c → c ≤ 334 → t' ≠ t → w' c (t' + 3600) = w c (t' + 3600) := fun c t' z1 z2 z3 => ho c _ (by omega) (fun y => by have := y.2; omega)
  have e1 : t1E w w' := x1
  have en : ∀ r, r / 3 ≠ t → enR w' r = enR w r := fun r z => enR_eq (xt 332 (r / 3) (by decide) (by decide) z) (xt 333 (r / 3) (by decide) (by decide) z) (xt 334 (r / 3) (by decide) (by decide) z)
  have a1 : ∀ q, anc w s1 q ↔ q = s1 ∨ anc w (w 331 (t + 3600)) q := fun q => by rw [hs1]; exact anc.of3 ht.1 hi1.1 hi1.2
  have a2 : ∀ q, anc w s2 q → q = s2 ∨ anc w (w 331 (t + 3600)) q := fun q z => by
    rcases hs2 with c | ⟨i, z1, z2, c⟩
    · rw [c] at z
      exact Or.inr z
    · rw [c] at z ⊢
      exact (anc.of3 ht.1 z1 z2).1 z
  have a3 : ∀ q, anc w (w 331 (t + 3600)) q → anc w s2 q := fun q z => by
    rcases hs2 with c | ⟨i, z1, z2, c⟩
    · rw [c]
      exact z
    · rw [c]
      exact (anc.of3 ht.1 z1 z2).2 (Or.inr z)
  have al : ∀ q, anc w (w 331 (t + 3600)) q → q < 3 * t := fun q z => by
    have := anc.le hti hta.1 (by omega) z
    omega
  -- what was open or before its end
  have key : ∀ R x, x ≤ n → -1 ≤ R → R < 3 * nt → (anc w s1 R ∨ x ≤ enR w R) → anc w s2 R ∨ x ≤ enR w' R := fun R x hx z1 z2 z3 => by
    by_cases c : R / 3 = t
    · have eR : R = 3 * t + R % 3 := by omega
      rcases hE (R % 3) (by omega) (by omega) with y | y | ⟨y1, y2⟩
      · rw [← eR] at y
        rw [y]
        exact Or.inl (anc.refl w s2)
      · rw [← eR] at y
        rw [y]
        exact Or.inr hx
      · rw [← eR] at y1 y2
        rw [y1]
        refine z3.imp (fun z => ?_) id
        rcases (a1 R).1 z with z | z
        · exact absurd z y2
        · have := al R z
          omega
    · rw [en R c]
      refine z3.imp (fun z => ?_) id
      rcases (a1 R).1 z with z | z
      · exact absurd (by omega) c
      · exact a3 R z
  have hg : ∀ q r, tgS w n s1 False q r → tgS w' n s2 True q r := fun q r z => ⟨z.1, by rw [e3.dq]; exact z.2.1, fun y => by rw [e3 328 _ (by omega), e3 330 _ (by omega)]; exact z.2.2.1 y, fun y => (z.2.2.2 y).1.elim⟩
  have hc2 : ∀ t', t' ≠ t → clsT w s2 t' → clsT w s1 t' := fun t' z1 z2 i k1 k2 a => by
    rcases (a1 _).1 a with y | y
    · omega
    · exact z2 i k1 k2 (a3 _ y)
  have hc1 : ∀ t', clsT w s1 t' → t' ≠ t ∧ clsT w s2 t' := fun t' z => by
    have tn : t' ≠ t := fun c => z i1 hi1.1 hi1.2 (by rw [c, ← hs1]; exact anc.refl w s1)
    refine ⟨tn, fun i k1 k2 a => ?_⟩
    rcases a2 _ a with y | y
    · rcases hs2 with c | ⟨j, z1, z2, c⟩
      · exact z i k1 k2 ((a1 _).2 (Or.inr (by rw [y, c]; exact anc.refl w _)))
      · omega
    · exact z i k1 k2 ((a1 _).2 (Or.inr y))
  have hs2r : -1 ≤ s2 ∧ s2 < 3 * nt := by
    rcases hs2 with c | ⟨j, z1, z2, c⟩
    · omega
    · omega
  refine ⟨⟨⟨i1'.1.c3 e3 (fun t _ _ => x1 _) (Int.le_refl nt), i1'.2.c3 e3⟩, fun p g1 g2 => ?_, fun t' g1 g2 => ?_, fun v g1 g2 => ?_, fun m g1 g2 g3 => ?_, ⟨hs2r, i6.2⟩, ⟨fun r g1 g2 => by rw [piR_t1 e1]; exact i7.1 r g1 g2, ?_⟩, i8, fun z => by rw [e3 328 _ (by omega)]; exact i9 z, fun _ => trivial, i11.eq (fun m _ _ => e3 _ _ (by omega)) (fun m _ _ => e3 _ _ (by omega)) (fun k _ _ => e3 _ _ (by omega)) (Int.le_refl n) (fun _ _ z => z)⟩, by rw [e3.dq]; exact hd, fun q _ => (hr q s2).c3 e3 (fun t _ _ => x1 _) (Int.le_refl nt)⟩
  · obtain ⟨q1, q2, q3, q4⟩ := i2 p g1 g2
    unfold plO
    rw [e3 328 _ (by omega), e3 329 _ (by omega), e3 330 _ (by omega), anc_t1 e1]
    refine ⟨q1, ?_, fun g => (q3 g).imp id (fun ⟨r1, r2, r3⟩ => ⟨r1, ?_, r3.imp id (fun ⟨y1, y2⟩ => ?_)⟩), q4⟩
    · exact (key (w 330 (p + 40000)) (p + 1) (by omega) q1.1 q1.2 (q2.imp id (fun z => by omega))).imp id (fun z => by omega)
    · rw [anc_t1 e1, x5 335 _ (by decide) (by decide)]
      exact r2
    · unfold brO
      rw [x5 336 _ (by decide) (by decide), x5 335 _ (by decide) (by decide)]
      refine ⟨y1, fun r z1 z2 z3 => ?_⟩
      rw [anc_t1 e1] at z1 z2
      obtain ⟨v1, v2⟩ := y2 r z1 z2 z3
      obtain ⟨v3, v4⟩ := hc1 _ v1
      rw [cls_t1 e1, xt 334 (r / 3) (by decide) (by decide) v3]
      exact ⟨v4, v2⟩
  · by_cases c : t' = t
    · subst c
      exact hT
    · obtain ⟨q1, q2, q3, q4, q5⟩ := i3 t' g1 g2
      unfold tyO
      rw [x1, xt 332 t' (by decide) (by decide) c, xt 333 t' (by decide) (by decide) c, xt 334 t' (by decide) (by decide) c, cls_t1 e1, anc_t1 e1]
      refine ⟨q1, q2.imp id (hg _ _), q3.imp id (hg _ _), q4, fun z => ?_⟩
      obtain ⟨y1, y2, y3⟩ := q5 (hc2 t' c z)
      exact ⟨hg _ _ y1, y2, key _ _ y1.1.2 q1.1 (by omega) y3⟩
  · obtain ⟨q1, q2, q3⟩ := i4 v g1 g2
    unfold whO
    rw [x5 335 _ (by decide) (by decide), x5 336 _ (by decide) (by decide), anc_t1 e1]
    exact ⟨q1, fun z => a3 _ (hO v z), fun z => hg _ _ (q3 z)⟩
  · rw [e3 341 _ (by omega)] at g3
    rw [e3 344 _ (by omega)]
    exact hg _ _ (i5 m g1 g2 g3)
  · rw [piR_t1 e1]
    rcases hs2 with c | ⟨j, z1, z2, c⟩
    · rw [c]
      omega
    · rw [c, piR_step (r := 3 * t + j) hti (by omega) (by omega), show (3 * t + j) / 3 = t by omega]
      by_cases c2 : (3 * t + j) % 3 = 2
      · rw [if_pos c2]; omega
      · rw [if_neg c2]; omega
theorem anc_self_not {w : eW} {s t i : Int} (hi : 0 ≤ i ∧ i ≤ 2) (hs : s = 3 * t + i) : ¬ clsT w s t := fun z => z i hi.1 hi.2 (by rw [← hs]; exact anc.refl w s)
/-- the catch part begins -/
theorem GZ.cat {w w' : eW} {N n mm nt nw o t : Int} {P OW : Int → Prop} (h : GZ w N n mm nt nw P (3 * t) OW o) (ht : 0 ≤ t ∧ t < nt) (hv : w' 332 (t + 3600) = n) (hf : w 333 (t + 3600) < 0) (ho : ∀ c k, (328 ≤ c ∧ c ≤ 336) ∨ (341 ≤ c ∧ c ≤ 344) → ¬ (c = 332 ∧ k = t + 3600) → w' c k = w c k) (hO : ∀ v, OW v → anc w (w 331 (t + 3600)) (w 335 (v + 3600))) (hpi : piR w (w 331 (t + 3600)) + 1 ≤ o) : GB w' N n mm nt nw P (3 * t + 1) OW o := by
  have hn : 0 ≤ n := h.1.2.2.2.2.2.1.2.1
  have e1 : w' 331 (t + 3600) = w 331 (t + 3600) := ho 331 _ (by omega) (fun y => absurd y.1 (by decide))
  have e3 : w' 333 (t + 3600) = w 333 (t + 3600) := ho 333 _ (by omega) (fun y => absurd y.1 (by decide))
  have e4 : w' 334 (t + 3600) = w 334 (t + 3600) := ho 334 _ (by omega) (fun y => absurd y.1 (by decide))
  have ed : dp w' n = 0 := (dp_eq (fun k _ _ => ho 328 _ (by omega) (fun y => absurd y.1 (by decide)))).trans h.2.1
  refine h.turn (i1 := 0) (g := 332) ht (by omega) (by omega) (Or.inr ⟨1, by decide, by decide, rfl⟩) (by decide) ho (fun i k1 k2 => ?_) hO hpi ?_
  · obtain rfl | rfl | rfl : i = 0 ∨ i = 1 ∨ i = 2 := by omega
    · right; left
      rw [show 3 * t + 0 = 3 * t by omega, enR_0, hv, if_pos hn]
    · exact Or.inl rfl
    · right; right
      rw [enR_2, enR_2, e4]
      exact ⟨rfl, by omega⟩
  · unfold tyO
    rw [e1, hv, e3]
    exact ⟨h.1.ti t ht.1 ht.2, Or.inr ⟨⟨hn, Int.le_refl n⟩, ed, fun z => by omega, fun _ => ⟨trivial, rfl⟩⟩, Or.inl hf, Or.inr hf, fun z => absurd z (anc_self_not (i := 1) (by decide) rfl)⟩
/-- the finally part begins -/
theorem GZ.fina {w w' : eW} {N n mm nt nw o t i1 : Int} {P OW : Int → Prop} (h : GZ w N n mm nt nw P (3 * t + i1) OW o) (ht : 0 ≤ t ∧ t < nt) (hi : 0 ≤ i1 ∧ i1 ≤ 1) (hv : w' 333 (t + 3600) = n) (hc : (i1 = 0 ∧ w 332 (t + 3600) < 0) ∨ (i1 = 1 ∧ 0 ≤ w 332 (t + 3600) ∧ w 332 (t + 3600) < n)) (ho : ∀ c k, (328 ≤ c ∧ c ≤ 336) ∨ (341 ≤ c ∧ c ≤ 344) → ¬ (c = 333 ∧ k = t + 3600) → w' c k = w c k) (hO : ∀ v, OW v → anc w (w 331 (t + 3600)) (w 335 (v + 3600))) (hpi : piR w (w 331 (t + 3600)) + 1 ≤ o) : GB w' N n mm nt nw P (3 * t + 2) OW o := by
  have hn : 0 ≤ n := h.1.2.2.2.2.2.1.2.1
  have e1 : w' 331 (t + 3600) = w 331 (t + 3600) := ho 331 _ (by omega) (fun y => absurd y.1 (by decide))
  have e2 : w' 332 (t + 3600) = w 332 (t + 3600) := ho 332 _ (by omega) (fun y => absurd y.1 (by decide))
  have e8 : ∀ k, w' 328 k = w 328 k := fun k => ho 328 _ (by omega) (fun y => absurd y.1 (by decide))
  have e0 : ∀ k, w' 330 k = w 330 k := fun k => ho 330 _ (by omega) (fun y => absurd y.1 (by decide))
  have ed : ∀ p, dp w' p = dp w p := fun p => dp_eq (fun k _ _ => e8 _)
  have hty := (h.1.2.2.1 t ht.1 ht.2)
  refine h.turn (i1 := i1) (g := 333) ht rfl (by omega) (Or.inr ⟨2, by decide, by decide, rfl⟩) (by decide) ho (fun i k1 k2 => ?_) hO hpi ?_
  · obtain rfl | rfl | rfl : i = 0 ∨ i = 1 ∨ i = 2 := by omega
    · right
      rw [show 3 * t + 0 = 3 * t by omega, enR_0, enR_0, e2, hv, if_pos hn]
      rcases hc with ⟨c1, c2⟩ | ⟨c1, c2, c3⟩
      · left
        rw [if_neg (by omega)]
      · right
        rw [if_pos c2, if_pos c2]
        exact ⟨rfl, by omega⟩
    · right; left
      rw [enR_1, hv, if_pos hn]
    · exact Or.inl rfl
  · unfold tyO
    rw [e1, e2, hv]
    refine ⟨hty.1, ?_, Or.inr ⟨⟨hn, Int.le_refl n⟩, by rw [ed]; exact h.2.1, fun z => by omega, fun _ => ⟨trivial, rfl⟩⟩, Or.inl (by omega), fun z => absurd z (anc_self_not (i := 2) (by decide) rfl)⟩
    rcases hc with ⟨c1, c2⟩ | ⟨c1, c2, c3⟩
    · exact Or.inl c2
    · right
      have := hty.2.1.resolve_left (by omega)
      exact ⟨this.1, by rw [ed]; exact this.2.1, fun z => by rw [e8, e0]; exact this.2.2.1 z, fun z => by omega⟩
/-- the try is over -/
theorem GZ.over {w w' : eW} {N n mm nt nw o t i1 : Int} {P OW : Int → Prop} (h : GZ w N n mm nt nw P (3 * t + i1) OW o) (ht : 0 ≤ t ∧ t < nt) (hi : 0 ≤ i1 ∧ i1 ≤ 2) (hv : w' 334 (t + 3600) = n) (hc : (i1 = 0 ∧ w 332 (t + 3600) < 0 ∧ w 333 (t + 3600) < 0) ∨ (i1 = 1 ∧ 0 ≤ w 332 (t + 3600) ∧ w 332 (t + 3600) < n ∧ w 333 (t + 3600) < 0) ∨ (i1 = 2 ∧ 0 ≤ w 333 (t + 3600) ∧ w 333 (t + 3600) < n ∧ w 332 (t + 3600) < n)) (ho : ∀ c k, (328 ≤ c ∧ c ≤ 336) ∨ (341 ≤ c ∧ c ≤ 344) → ¬ (c = 334 ∧ k = t + 3600) → w' c k = w c k) (hO : ∀ v, OW v → anc w (w 331 (t + 3600)) (w 335 (v + 3600))) (hpi : piR w (w 331 (t + 3600)) + 1 ≤ o) : GB w' N n mm nt nw P (w 331 (t + 3600)) OW o := by
  have hn : 0 ≤ n := h.1.2.2.2.2.2.1.2.1
  have e1 : ∀ k, w' 331 k = w 331 k := fun k => ho 331 _ (by omega) (fun y => absurd y.1 (by decide))
  have e2 : w' 332 (t + 3600) = w 332 (t + 3600) := ho 332 _ (by omega) (fun y => absurd y.1 (by decide))
  have e3 : w' 333 (t + 3600) = w 333 (t + 3600) := ho 333 _ (by omega) (fun y => absurd y.1 (by decide))
  have e8 : ∀ k, w' 328 k = w 328 k := fun k => ho 328 _ (by omega) (fun y => absurd y.1 (by decide))
  have e0 : ∀ k, w' 330 k = w 330 k := fun k => ho 330 _ (by omega) (fun y => absurd y.1 (by decide))
  have ed : ∀ p, dp w' p = dp w p := fun p => dp_eq (fun k _ _ => e8 _)
  have hty := (h.1.2.2.1 t ht.1 ht.2)
  have hg : ∀ q r, q < n → tgS w n (3 * t + i1) False q r → tgS w' n (w 331 (t + 3600)) True q r := fun q r z0 z => ⟨z.1, by rw [ed]; exact z.2.1, fun y => by rw [e8, e0]; exact z.2.2.1 y, fun y => by omega⟩
  refine h.turn (i1 := i1) (g := 334) ht rfl hi (Or.inl rfl) (by decide) ho (fun i k1 k2 => ?_) hO hpi ?_
  · obtain rfl | rfl | rfl : i = 0 ∨ i = 1 ∨ i = 2 := by omega
    · right
      rw [show 3 * t + 0 = 3 * t by omega, enR_0, enR_0, e2, e3, hv]
      rcases hc with ⟨c1, c2, c3⟩ | ⟨c1, c2, c3, c4⟩ | ⟨c1, c2, c3, c4⟩
      · left
        rw [if_neg (by omega), if_neg (by omega)]
      · right
        rw [if_pos c2, if_pos c2]
        exact ⟨rfl, by omega⟩
      · right
        rw [if_pos c2, if_pos c2]
        exact ⟨rfl, by omega⟩
    · right
      rw [enR_1, enR_1, e3, hv]
      rcases hc with ⟨c1, c2, c3⟩ | ⟨c1, c2, c3, c4⟩ | ⟨c1, c2, c3, c4⟩
      · left
        rw [if_neg (by omega)]
      · left
        rw [if_neg (by omega)]
      · right
        rw [if_pos c2, if_pos c2]
        exact ⟨rfl, by omega⟩
    · right; left
      rw [enR_2]
      exact hv
  · unfold tyO
    rw [e1, e2, e3, hv]
    refine ⟨hty.1, ?_, ?_, ?_, fun z => ⟨⟨⟨hn, Int.le_refl n⟩, by rw [ed]; exact h.2.1, fun z => by omega, fun _ => ⟨trivial, rfl⟩⟩, by omega, Or.inl (anc.refl w' _)⟩⟩
    · rcases hc with ⟨c1, c2, c3⟩ | ⟨c1, c2, c3, c4⟩ | ⟨c1, c2, c3, c4⟩
      · exact Or.inl c2
      · exact Or.inr (hg _ _ c3 (hty.2.1.resolve_left (by omega)))
      · exact hty.2.1.imp id (hg _ _ c4)
    · rcases hc with ⟨c1, c2, c3⟩ | ⟨c1, c2, c3, c4⟩ | ⟨c1, c2, c3, c4⟩
      · exact Or.inl c3
      · exact Or.inl c4
      · exact Or.inr (hg _ _ c3 (hty.2.2.1.resolve_left (by omega)))
    · exact hty.2.2.2.1
end
