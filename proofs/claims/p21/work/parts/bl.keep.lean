noncomputable section
/-! a program is read: the programs of the other arms stay -/
/-- the cells of the arm a's program -/
def prS (w w' : eW) (a : Int) : Prop := (∀ c p, 328 ≤ c → c ≤ 330 → 0 ≤ p → p < 10000 → w' c (10000 * a + p) = w c (10000 * a + p)) ∧ (∀ c t, 331 ≤ c → c ≤ 336 → 0 ≤ t → t < 900 → w' c (900 * a + t) = w c (900 * a + t)) ∧ (∀ q, 0 ≤ q → q < 32 → w' 337 (32 * a + q) = w 337 (32 * a + q)) ∧ w' 338 a = w 338 a
section
variable {w w' : eW} {a n nt nw : Int} {dl sg pi en : Int → Int} {an br : Int → Int → Prop}
theorem tgt.ps (e : prS w w' a) (hn : n ≤ 10000) {q r : Int} (h : tgt w a n dl sg q r) : tgt w' a n dl sg q r := ⟨h.1, h.2.1, h.2.2.1, h.2.2.2.1, by rw [e.1 330 q (by decide) (by decide) h.1 (by have := h.2.1; omega)]; exact h.2.2.2.2⟩
theorem insOk.ps (e : prS w w' a) (hn : n ≤ 10000) (hw : nw ≤ 900) (ht : nt ≤ 900) {p : Int} (h1 : 0 ≤ p) (h2 : p < n) (h : insOk w a n nt nw dl sg en br p) : insOk w' a n nt nw dl sg en br p := by
  have e8 := e.1 328 p (by decide) (by decide) h1 (by omega)
  have e9 := e.1 329 p (by decide) (by decide) h1 (by omega)
  have e0 := e.1 330 p (by decide) (by decide) h1 (by omega)
  have r1 : p + 1 < n → w' 330 (10000 * a + p + 1) = w 330 (10000 * a + p + 1) := fun z => by
    rw [show 10000 * a + p + 1 = 10000 * a + (p + 1) by omega]
    exact e.1 330 (p + 1) (by decide) (by decide) (by omega) (by omega)
  have ft : iFT w a n p → iFT w' a n p := fun z => ⟨z.1, by rw [r1 z.1, e0]; exact z.2⟩
  have ss : iS w a n dl sg p → iS w' a n dl sg p := fun z => ⟨ft z.1, z.2⟩
  have jt : ∀ c x, 328 ≤ c → c ≤ 330 → 0 ≤ x → x < n → w' c (10000 * a + x) = w c (10000 * a + x) := fun c x c1 c2 x1 x2 => e.1 c x c1 c2 x1 (by omega)
  obtain ⟨i0, i1, i2, i3, i4, i5, i6, i7, i8, i9, i10, i11, i12, i13, i14, i15, i16, i17, i18, i19⟩ := h
  unfold insOk
  rw [e8, e9, e0, e.2.2.2]
  refine ⟨i0, fun z => ⟨(i1 z).1, (i1 z).2.1, ft (i1 z).2.2⟩, i2, i3, i4, fun z => ?_, i6, fun z => ?_, fun z => ss (i8 z), i9, i10, i11, fun z => ?_, i13, i14, i15, fun z => ?_, fun z => ?_, fun z => ?_, i19⟩
  · obtain ⟨a1, a2, a3, a4, a5, a6, a7⟩ := i5 z
    exact ⟨a1, a2, a3, a4, a5, a6, by rw [jt 330 _ (by decide) (by decide) (Int.le_trans h1 (Int.le_of_lt a3)) a4]; exact a7⟩
  · obtain ⟨a1, a2, a3, a4, a5⟩ := i7 z
    refine ⟨a1, a2, a3, a4, ?_⟩
    rw [r1 a3]
    refine a5.imp id (fun ⟨t, t1, t2, t3, t4⟩ => ⟨t, t1, t2, t3, ?_⟩)
    rw [e.2.1 331 t (by decide) (by decide) t1 (Int.lt_of_lt_of_le t2 ht)]
    exact t4
  · obtain ⟨a1, a2, a3, a4⟩ := i12 z
    exact ⟨a1, a2, a3, by rw [jt 330 _ (by decide) (by decide) a1 a2]; exact a4⟩
  · obtain ⟨a1, a2, a3, a4⟩ := i16 z
    exact ⟨a1, a2, a3, by rw [e.2.1 336 _ (by decide) (by decide) a1 (Int.lt_of_lt_of_le a2 hw)]; exact a4⟩
  · obtain ⟨a1, a2, a3, a4, a5, a6⟩ := i17 z
    exact ⟨ss a1, a2, a3, a4, a5, by rw [jt 330 _ (by decide) (by decide) (Int.le_trans h1 (Int.le_of_lt a2)) a3]; exact a6⟩
  · obtain ⟨a1, a2, a3, a4, a5, a6, a7⟩ := i18 z
    exact ⟨a1, a2, a3, a4, a5, by rw [jt 330 _ (by decide) (by decide) a2 a3]; exact a6, a7.imp id (fun y => by rw [jt 328 _ (by decide) (by decide) a2 a3]; exact y)⟩
theorem tryOk.ps (e : prS w w' a) (hn : n ≤ 10000) {t : Int} (h1 : 0 ≤ t) (h2 : t < 900) (h : tryOk w a n dl sg pi en an t) : tryOk w' a n dl sg pi en an t := by
  have x : ∀ c, 331 ≤ c → c ≤ 336 → w' c (900 * a + t) = w c (900 * a + t) := fun c c1 c2 => e.2.1 c t c1 c2 h1 h2
  obtain ⟨q1, q2, q3, q4, q5, q6, q7⟩ := h
  unfold tryOk
  rw [x 331 (by decide) (by decide), x 332 (by decide) (by decide), x 333 (by decide) (by decide), x 334 (by decide) (by decide)]
  exact ⟨q1, q2, q3.imp id (fun y => ⟨y.1.ps e hn, y.2⟩), q4.imp id (fun y => ⟨y.1.ps e hn, y.2⟩), ⟨q5.1.ps e hn, q5.2⟩, q6, q7⟩
theorem cOk.ps (e : prS w w' a) (hr : w 338 a ≤ 32) (hb : ∀ r v, br r v → 0 ≤ v ∧ v < nw) (h : cOk w a n nt nw dl sg pi en an br) : cOk w' a n nt nw dl sg pi en an br := by
  obtain ⟨h1, h2, h3, h4, h5, h6, h7⟩ := h
  refine ⟨h1, fun p q1 q2 => (h2 p q1 q2).ps e h1.2.1 h1.2.2.2.2.2 h1.2.2.2.1 q1 q2, fun t q1 q2 => (h3 t q1 q2).ps e h1.2.1 q1 (by omega), h4, fun v q1 q2 => ?_, fun r v q1 q2 q3 => ?_, fun q q1 q2 => ?_⟩
  · rw [e.2.1 335 v (by decide) (by decide) q1 (by omega), e.2.1 336 v (by decide) (by decide) q1 (by omega)]
    exact ⟨(h5 v q1 q2).1, (h5 v q1 q2).2.ps e h1.2.1⟩
  · have hv := hb r v q1
    rw [e.2.1 335 v (by decide) (by decide) hv.1 (by omega), e.2.1 336 v (by decide) (by decide) hv.1 (by omega)]
    refine (h6 r v q1 q2 q3).imp id (fun ⟨y1, y2, y3⟩ => ?_)
    rw [e.2.1 334 (r / 3) (by decide) (by decide) (by omega) (by omega), e.2.1 331 (r / 3) (by decide) (by decide) (by omega) (by omega)]
    exact ⟨y1, y2, y3⟩
  · rw [e.2.2.2] at q2
    rw [e.2.2.1 q q1 (by omega)]
    exact (h7 q q1 q2).ps e h1.2.1
end
/-- a program without an instruction -/
theorem cOk.none {w : eW} {a : Int} (h : w 338 a ≤ 0) : cOk w a 0 0 0 (fun _ => 0) (fun _ => 0) (fun _ => 0) (fun _ => 0) (fun r q => q = r) (fun _ _ => False) :=
  ⟨by decide, fun p h1 h2 => by omega, fun t h1 h2 => by omega, ⟨rfl, fun r _ _ => (show (0 : Int) ≤ 0 ∧ (0 : Int) ≤ 30 from by decide), fun _ => rfl, fun q g => g, fun r q g g2 => by omega, fun r q _ _ _ => Int.le_refl 0⟩, fun v h1 h2 => by omega, fun r v g => g.elim, fun q h1 h2 => by omega⟩
end
