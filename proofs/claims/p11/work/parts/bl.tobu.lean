-- part bl
section
noncomputable section
/-! a program is read: the programs of the other arms stay -/
/-- the cells of the arm a's program -/
def prS (w w' : eW) (a : Int) : Prop := (∀ c p, 328 ≤ c → c ≤ 330 → 0 ≤ p → p < 10000 → w' c (10000 * a + p) = w c (10000 * a + p)) ∧ (∀ c t, 331 ≤ c → c ≤ 336 → 0 ≤ t → t < 900 → w' c (900 * a + t) = w c (900 * a + t)) ∧ (∀ q, 0 ≤ q → q < 32 → w' 337 (32 * a + q) = w 337 (32 * a + q)) ∧ w' 338 a = w 338 a
section
variable {w w' : eW} {a n nt nw : Int} {dl sg pi en : Int → Int} {an br : Int → Int → Prop}
theorem tgt.ps (e : prS w w' a) (hn : n ≤ 10000) {q r : Int} (h : tgt w a n dl sg q r) : tgt w' a n dl sg q r := ⟨h.1, h.2.1, h.2.2.1, h.2.2.2.1, by rw [e.1 330 q (by decide) (by decide) h.1 (by have := h.2.1; omega)]; exact h.2.2.2.2⟩
theorem insOk.ps (e : prS w w' a) (hn : n ≤ 10000) (hw : nw ≤ 900) (ht : nt ≤ 900) {p : Int} (h1 : 0 ≤ p) (h2 : p < n) (h : insOk w a n nt nw dl sg en br p) : insOk w' a n nt nw dl sg en br p := by
  have e8 := e.1 328 p (by decide) (by decide) h1 (by omega)
  have e9 := e.1 329 p (by decide) (by decide) h1 (by omega)
  have e0 := e.1 330 p (by decide) (by decide) h1 (by omega)
  have r1 : p + 1 < n → w' 330 (10000 * a + p + 1) = w 330 (10000 * a + p + 1) := fun z => by
    rw [show 10000 * a + p + 1 = 10000 * a + (p + 1) by omega]
    exact e.1 330 (p + 1) (by decide) (by decide) (by omega) (by omega)
  have ft : iFT w a n p → iFT w' a n p := fun z => ⟨z.1, by rw [r1 z.1, e0]; exact z.2⟩
  have ss : iS w a n dl sg p → iS w' a n dl sg p := fun z => ⟨ft z.1, z.2⟩
  have jt : ∀ c x, 328 ≤ c → c ≤ 330 → 0 ≤ x → x < n → w' c (10000 * a + x) = w c (10000 * a + x) := fun c x c1 c2 x1 x2 => e.1 c x c1 c2 x1 (by omega)
  obtain ⟨i0, i1, i2, i3, i4, i5, i6, i7, i8, i9, i10, i11, i12, i13, i14, i15, i16, i17, i18, i19⟩ := h
  unfold insOk
  rw [e8, e9, e0, e.2.2.2]
  refine ⟨i0, fun z => ⟨(i1 z).1, (i1 z).2.1, ft (i1 z).2.2⟩, i2, i3, i4, fun z => ?_, i6, fun z => ?_, fun z => ss (i8 z), i9, i10, i11, fun z => ?_, i13, i14, i15, fun z => ?_, fun z => ?_, fun z => ?_, i19⟩
  · obtain ⟨a1, a2, a3, a4, a5, a6, a7⟩ := i5 z
    exact ⟨a1, a2, a3, a4, a5, a6, by rw [jt 330 _ (by decide) (by decide) (Int.le_trans h1 (Int.le_of_lt a3)) a4]; exact a7⟩
  · obtain ⟨a1, a2, a3, a4, a5⟩ := i7 z
    refine ⟨a1, a2, a3, a4, ?_⟩
    rw [r1 a3]
    refine a5.imp id (fun ⟨t, t1, t2, t3, t4⟩ => ⟨t, t1, t2, t3, ?_⟩)
    rw [e.2.1 331 t (by decide) (by decide) t1 (Int.lt_of_lt_of_le t2 ht)]
    exact t4
  · obtain ⟨a1, a2, a3, a4⟩ := i12 z
    exact ⟨a1, a2, a3, by rw [jt 330 _ (by decide) (by decide) a1 a2]; exact a4⟩
  · obtain ⟨a1, a2, a3, a4⟩ := i16 z
    exact ⟨a1, a2, a3, by rw [e.2.1 336 _ (by decide) (by decide) a1 (Int.lt_of_lt_of_le a2 hw)]; exact a4⟩
  · obtain ⟨a1, a2, a3, a4, a5, a6⟩ := i17 z
    exact ⟨ss a1, a2, a3, a4, a5, by rw [jt 330 _ (by decide) (by decide) (Int.le_trans h1 (Int.le_of_lt a2)) a3]; exact a6⟩
  · obtain ⟨a1, a2, a3, a4, a5, a6, a7⟩ := i18 z
    exact ⟨a1, a2, a3, a4, a5, by rw [jt 330 _ (by decide) (by decide) a2 a3]; exact a6, a7.imp id (fun y => by rw [jt 328 _ (by decide) (by decide) a2 a3]; exact y)⟩
theorem tryOk.ps (e : prS w w' a) (hn : n ≤ 10000) {t : Int} (h1 : 0 ≤ t) (h2 : t < 900) (h : tryOk w a n dl sg pi en an t) : tryOk w' a n dl sg pi en an t := by
  have x : ∀ c, 331 ≤ c → c ≤ 336 → w' c (900 * a + t) = w c (900 * a + t) := fun c c1 c2 => e.2.1 c t c1 c2 h1 h2
  obtain ⟨q1, q2, q3, q4, q5, q6, q7⟩ := h
  unfold tryOk
  rw [x 331 (by decide) (by decide), x 332 (by decide) (by decide), x 333 (by decide) (by decide), x 334 (by decide) (by decide)]
  exact ⟨q1, q2, q3.imp id (fun y => ⟨y.1.ps e hn, y.2⟩), q4.imp id (fun y => ⟨y.1.ps e hn, y.2⟩), ⟨q5.1.ps e hn, q5.2⟩, q6, q7⟩
theorem cOk.ps (e : prS w w' a) (hr : w 338 a ≤ 32) (hb : ∀ r v, br r v → 0 ≤ v ∧ v < nw) (h : cOk w a n nt nw dl sg pi en an br) : cOk w' a n nt nw dl sg pi en an br := by
  obtain ⟨h1, h2, h3, h4, h5, h6, h7⟩ := h
  refine ⟨h1, fun p q1 q2 => (h2 p q1 q2).ps e h1.2.1 h1.2.2.2.2.2 h1.2.2.2.1 q1 q2, fun t q1 q2 => (h3 t q1 q2).ps e h1.2.1 q1 (by omega), h4, fun v q1 q2 => ?_, fun r v q1 q2 q3 => ?_, fun q q1 q2 => ?_⟩
  · rw [e.2.1 335 v (by decide) (by decide) q1 (by omega), e.2.1 336 v (by decide) (by decide) q1 (by omega)]
    exact ⟨(h5 v q1 q2).1, (h5 v q1 q2).2.ps e h1.2.1⟩
  · have hv := hb r v q1
    rw [e.2.1 335 v (by decide) (by decide) hv.1 (by omega), e.2.1 336 v (by decide) (by decide) hv.1 (by omega)]
    refine (h6 r v q1 q2 q3).imp id (fun ⟨y1, y2, y3⟩ => ?_)
    rw [e.2.1 334 (r / 3) (by decide) (by decide) (by omega) (by omega), e.2.1 331 (r / 3) (by decide) (by decide) (by omega) (by omega)]
    exact ⟨y1, y2, y3⟩
  · rw [e.2.2.2] at q2
    rw [e.2.2.1 q q1 (by omega)]
    exact (h7 q q1 q2).ps e h1.2.1
end
/-- a program without an instruction -/
theorem cOk.none {w : eW} {a : Int} (h : w 338 a ≤ 0) : cOk w a 0 0 0 (fun _ => 0) (fun _ => 0) (fun _ => 0) (fun _ => 0) (fun r q => q = r) (fun _ _ => False) :=
  ⟨by decide, fun p h1 h2 => by omega, fun t h1 h2 => by omega, ⟨rfl, fun r _ _ => (show (0 : Int) ≤ 0 ∧ (0 : Int) ≤ 30 from by decide), fun _ => rfl, fun q g => g, fun r q g g2 => by omega, fun r q _ _ _ => Int.le_refl 0⟩, fun v h1 h2 => by omega, fun r v g => g.elim, fun q h1 h2 => by omega⟩
end
end
-- part bm
section
noncomputable section
/-! the program is copied to its arm -/
def cp3 (X v : eW) (a y : Int) : Prop := (∀ c k, ¬ ((328 ≤ c ∧ c ≤ 330) ∧ 10000 * a ≤ k ∧ k < 10000 * a + 10000) → v c k = X c k) ∧ ∀ c k, 328 ≤ c → c ≤ 330 → 0 ≤ k → k < y → v c (10000 * a + k) = X c (k + 40000)
theorem cp3.zero (X : eW) (a : Int) : cp3 X X a 0 := ⟨fun _ _ _ => rfl, fun c k _ _ h1 h2 => by omega⟩
theorem cp3.next {X v v1 v2 v3 : eW} {a y : Int} (h : cp3 X v a y) (ha : 0 ≤ a ∧ a ≤ 3) (hy : 0 ≤ y ∧ y < 10000) (h1 : e_up v 328 (10000 * a + y) (v 328 (y + 40000)) = v1) (h2 : e_up v1 329 (10000 * a + y) (v 329 (y + 40000)) = v2) (h3 : e_up v2 330 (10000 * a + y) (v 330 (y + 40000)) = v3) : cp3 X v3 a (y + 1) := by
  have o : ∀ c k, ¬ ((328 ≤ c ∧ c ≤ 330) ∧ k = 10000 * a + y) → v3 c k = v c k := fun c k g => by
    rw [← h3, e_up_ne _ _ (by omega), ← h2, e_up_ne _ _ (by omega), ← h1]
    exact e_up_ne _ _ (by omega)
  have s8 : v3 328 (10000 * a + y) = v 328 (y + 40000) := by
    rw [← h3, e_up_ne _ _ (Or.inl (by decide)), ← h2, e_up_ne _ _ (Or.inl (by decide)), ← h1]
    exact e_up_eq _ _ _ _
  have s9 : v3 329 (10000 * a + y) = v 329 (y + 40000) := by
    rw [← h3, e_up_ne _ _ (Or.inl (by decide)), ← h2]
    exact e_up_eq _ _ _ _
  have s0 : v3 330 (10000 * a + y) = v 330 (y + 40000) := by
    rw [← h3]
    exact e_up_eq _ _ _ _
  refine ⟨fun c k g => (o c k (by omega)).trans (h.1 c k g), fun c k c1 c2 k1 k2 => ?_⟩
  by_cases e : k = y
  · subst e
    have hs : v c (k + 40000) = X c (k + 40000) := h.1 c _ (by omega)
    obtain rfl | rfl | rfl : c = 328 ∨ c = 329 ∨ c = 330 := by omega
    · exact s8.trans hs
    · exact s9.trans hs
    · exact s0.trans hs
  · rw [o c _ (by omega)]
    exact h.2 c k c1 c2 k1 (by omega)
def cp6 (X v : eW) (a y : Int) : Prop := (∀ c k, ¬ ((331 ≤ c ∧ c ≤ 336) ∧ 900 * a ≤ k ∧ k < 900 * a + 900) → v c k = X c k) ∧ ∀ c k, 331 ≤ c → c ≤ 336 → 0 ≤ k → k < y → v c (900 * a + k) = X c (k + 3600)
theorem cp6.zero (X : eW) (a : Int) : cp6 X X a 0 := ⟨fun _ _ _ => rfl, fun c k _ _ h1 h2 => by omega⟩
theorem cp6.next {X v v1 v2 v3 v4 v5 v6 : eW} {a y : Int} (h : cp6 X v a y) (ha : 0 ≤ a ∧ a ≤ 3) (hy : 0 ≤ y ∧ y < 900) (h1 : e_up v 331 (900 * a + y) (v 331 (y + 3600)) = v1) (h2 : e_up v1 332 (900 * a + y) (v 332 (y + 3600)) = v2) (h3 : e_up v2 333 (900 * a + y) (v 333 (y + 3600)) = v3) (h4 : e_up v3 334 (900 * a + y) (v 334 (y + 3600)) = v4) (h5 : e_up v4 335 (900 * a + y) (v 335 (y + 3600)) = v5) (h6 : e_up v5 336 (900 * a + y) (v 336 (y + 3600)) = v6) : cp6 X v6 a (y + 1) := by
  have o1 : ∀ c k, ¬ (c = 331 ∧ k = 900 * a + y) → v1 c k = v c k := fun c k g => by rw [← h1]; exact e_up_ne _ _ (by omega)
  have o2 : ∀ c k, ¬ (c = 332 ∧ k = 900 * a + y) → v2 c k = v1 c k := fun c k g => by rw [← h2]; exact e_up_ne _ _ (by omega)
  have o3 : ∀ c k, ¬ (c = 333 ∧ k = 900 * a + y) → v3 c k = v2 c k := fun c k g => by rw [← h3]; exact e_up_ne _ _ (by omega)
  have o4 : ∀ c k, ¬ (c = 334 ∧ k = 900 * a + y) → v4 c k = v3 c k := fun c k g => by rw [← h4]; exact e_up_ne _ _ (by omega)
  have o5 : ∀ c k, ¬ (c = 335 ∧ k = 900 * a + y) → v5 c k = v4 c k := fun c k g => by rw [← h5]; exact e_up_ne _ _ (by omega)
  have o6 : ∀ c k, ¬ (c = 336 ∧ k = 900 * a + y) → v6 c k = v5 c k := fun c k g => by rw [← h6]; exact e_up_ne _ _ (by omega)
  have s1 : v1 331 (900 * a + y) = v 331 (y + 3600) := by rw [← h1]; exact e_up_eq _ _ _ _
  have s2 : v2 332 (900 * a + y) = v 332 (y + 3600) := by rw [← h2]; exact e_up_eq _ _ _ _
  have s3 : v3 333 (900 * a + y) = v 333 (y + 3600) := by rw [← h3]; exact e_up_eq _ _ _ _
  have s4 : v4 334 (900 * a + y) = v 334 (y + 3600) := by rw [← h4]; exact e_up_eq _ _ _ _
  have s5 : v5 335 (900 * a + y) = v 335 (y + 3600) := by rw [← h5]; exact e_up_eq _ _ _ _
  have s6 : v6 336 (900 * a + y) = v 336 (y + 3600) := by rw [← h6]; exact e_up_eq _ _ _ _
  have o : ∀ c k, ¬ ((331 ≤ c ∧ c ≤ 336) ∧ k = 900 * a + y) → v6 c k = v c k := fun c k g => by rw [o6 c k (by omega), o5 c k (by omega), o4 c k (by omega), o3 c k (by omega), o2 c k (by omega), o1 c k (by omega)]
  refine ⟨fun c k g => (o c k (by omega)).trans (h.1 c k g), fun c k c1 c2 k1 k2 => ?_⟩
  by_cases e : k = y
  · subst e
    have hs : v c (k + 3600) = X c (k + 3600) := h.1 c _ (by omega)
    obtain rfl | rfl | rfl | rfl | rfl | rfl : c = 331 ∨ c = 332 ∨ c = 333 ∨ c = 334 ∨ c = 335 ∨ c = 336 := by omega
    · rw [o6 _ _ (by omega), o5 _ _ (by omega), o4 _ _ (by omega), o3 _ _ (by omega), o2 _ _ (by omega)]; exact s1.trans hs
    · rw [o6 _ _ (by omega), o5 _ _ (by omega), o4 _ _ (by omega), o3 _ _ (by omega)]; exact s2.trans hs
    · rw [o6 _ _ (by omega), o5 _ _ (by omega), o4 _ _ (by omega)]; exact s3.trans hs
    · rw [o6 _ _ (by omega), o5 _ _ (by omega)]; exact s4.trans hs
    · rw [o6 _ _ (by omega)]; exact s5.trans hs
    · exact s6.trans hs
  · rw [o c _ (by omega)]
    exact h.2 c k c1 c2 k1 (by omega)
def cp2 (X v : eW) (a y : Int) : Prop := (∀ c k, ¬ ((c = 337 ∧ 32 * a ≤ k ∧ k < 32 * a + 32) ∨ (c = 276 ∧ 32 * a + 20932 ≤ k ∧ k < 32 * a + 20964)) → v c k = X c k) ∧ ∀ k, 0 ≤ k → k < y → v 337 (32 * a + k) = X 337 (k + 128)
theorem cp2.zero (X : eW) (a : Int) : cp2 X X a 0 := ⟨fun _ _ _ => rfl, fun k h1 h2 => by omega⟩
theorem cp2.next {X v v1 v2 : eW} {a y : Int} (h : cp2 X v a y) (ha : 0 ≤ a ∧ a ≤ 3) (hy : 0 ≤ y ∧ y < 32) (h1 : e_up v 337 (32 * a + y) (v 337 (y + 128)) = v1) (h2 : e_up v1 276 (32 * a + y + 20932) 0 = v2) : cp2 X v2 a (y + 1) := by
  have o1 : ∀ c k, ¬ (c = 337 ∧ k = 32 * a + y) → v1 c k = v c k := fun c k g => by rw [← h1]; exact e_up_ne _ _ (by omega)
  have o2 : ∀ c k, ¬ (c = 276 ∧ k = 32 * a + y + 20932) → v2 c k = v1 c k := fun c k g => by rw [← h2]; exact e_up_ne _ _ (by omega)
  have s1 : v1 337 (32 * a + y) = v 337 (y + 128) := by rw [← h1]; exact e_up_eq _ _ _ _
  refine ⟨fun c k g => ?_, fun k k1 k2 => ?_⟩
  · rw [o2 c k (by omega), o1 c k (by omega)]
    exact h.1 c k g
  · rw [o2 _ _ (by omega)]
    by_cases e : k = y
    · subst e
      rw [s1]
      exact h.1 337 _ (by omega)
    · rw [o1 _ _ (by omega)]
      exact h.2 k k1 (by omega)
/-- what reading a program changes before it is copied -/
def mPs (c k : Int) : Prop := ((328 ≤ c ∧ c ≤ 330) ∧ 40000 ≤ k) ∨ ((331 ≤ c ∧ c ≤ 336) ∧ 3600 ≤ k) ∨ (c = 337 ∧ 128 ≤ k) ∨ ((c = 338 ∨ c = 339) ∧ k = 4) ∨ (341 ≤ c ∧ c ≤ 344) ∨ (c = 275 ∧ (k = 9 ∨ (78 ≤ k ∧ k ≤ 89) ∨ k = 94 ∨ k = 95))
/-- .. and all in all -/
def mPg (a c k : Int) : Prop := mPs c k ∨ ((328 ≤ c ∧ c ≤ 330) ∧ 10000 * a ≤ k ∧ k < 10000 * a + 10000) ∨ ((331 ≤ c ∧ c ≤ 336) ∧ 900 * a ≤ k ∧ k < 900 * a + 900) ∨ (c = 337 ∧ 32 * a ≤ k ∧ k < 32 * a + 32) ∨ (c = 276 ∧ 32 * a + 20932 ≤ k ∧ k < 32 * a + 20964) ∨ ((c = 338 ∨ c = 339 ∨ c = 340) ∧ k = a)
theorem mPs.ps {w w' : eW} {a : Int} (ha : 0 ≤ a ∧ a ≤ 3) (h : e_fr mPs w w') : prS w w' a :=
  ⟨fun c p c1 c2 p1 p2 => h c _ (by unfold mPs; omega), fun c t c1 c2 t1 t2 => h c _ (by unfold mPs; omega), fun q q1 q2 => h 337 _ (by unfold mPs; omega), h 338 _ (by unfold mPs; omega)⟩
theorem mPg.ps {w w' : eW} {a b : Int} (ha : 0 ≤ a ∧ a ≤ 3) (hb : 0 ≤ b ∧ b ≤ 3) (hn : a ≠ b) (h : e_fr (mPg a) w w') : prS w w' b :=
  ⟨fun c p c1 c2 p1 p2 => h c _ (by unfold mPg mPs; omega), fun c t c1 c2 t1 t2 => h c _ (by unfold mPg mPs; omega), fun q q1 q2 => h 337 _ (by unfold mPg mPs; omega), h 338 _ (by unfold mPg mPs; omega)⟩
/-- what the arm's program is then -/
theorem no_bm_0 {k : Int} : ¬ mRsv 328 k := by unfold mRsv; omega
theorem no_bm_1 {k : Int} : ¬ mRsv 330 k := by unfold mRsv; omega
theorem prog_ok {w v X v1 v2 v3 w1 w2 w3 : eW} {N a n mm nt nw R : Int} (hG : GX w N n mm nt nw (fun _ => False) (-1) (fun _ => False) 0) (hR : RS w v n mm mm) (hF : e_fr mRsv w v) (hX : ∀ c k, ¬ (c = 275 ∧ k = 9) → X c k = v c k) (ha : 0 ≤ a ∧ a ≤ 3) (hn : 0 ≤ n ∧ n ≤ 9900) (hnt : nt ≤ 900) (hnw : nw ≤ 900) (c3 : cp3 X v1 a n) (c6 : cp6 v1 v2 a 900) (c2 : cp2 v2 v3 a 32) (h1 : e_up v3 338 a R = w1) (hRv : R = v3 338 4) (h2 : ∃ z, e_up w1 339 a z = w2) (h3 : e_up w2 340 a 1 = w3) :
    ∃ (n' nt' nw' : Int) (dl sg pi en : Int → Int) (an br : Int → Int → Prop), cOk w3 a n' nt' nw' dl sg pi en an br ∧ ∀ r q, br r q → 0 ≤ q ∧ q < nw' := by
  obtain ⟨z, h2⟩ := h2
  have o3 : ∀ c k, c ≠ 338 → c ≠ 339 → c ≠ 340 → w3 c k = v3 c k := fun c k g1 g2 g3 => by
    rw [← h3, e_up_ne _ _ (Or.inl g3), ← h2, e_up_ne _ _ (Or.inl g2), ← h1]
    exact e_up_ne _ _ (Or.inl g1)
  have e38 : w3 338 a = v 338 4 := by
    rw [← h3, e_up_ne _ _ (Or.inl (by decide)), ← h2, e_up_ne _ _ (Or.inl (by decide)), ← h1, e_up_eq, hRv, c2.1 338 4 (by omega), c6.1 338 4 (by omega), c3.1 338 4 (by omega)]
    exact hX 338 4 (by omega)
  have f8 : ∀ c p, 328 ≤ c → c ≤ 330 → 0 ≤ p → p < n → w3 c (10000 * a + p) = v c (p + 40000) := fun c p c1 c2' p1 p2 => by
    rw [o3 c _ (by omega) (by omega) (by omega), c2.1 c _ (by omega), c6.1 c _ (by omega), c3.2 c p c1 c2' p1 p2]
    exact hX c _ (by omega)
  have ft : ∀ c t, 331 ≤ c → c ≤ 336 → 0 ≤ t → t < 900 → w3 c (900 * a + t) = w c (t + 3600) := fun c t c1 c2' t1 t2 => by
    rw [o3 c _ (by omega) (by omega) (by omega), c2.1 c _ (by omega), c6.2 c t c1 c2' t1 t2, c3.1 c _ (by omega), hX c _ (by omega)]
    exact hF c _ (by unfold mRsv; omega)
  have f7 : ∀ q, 0 ≤ q → q < 32 → w3 337 (32 * a + q) = v 337 (q + 128) := fun q q1 q2 => by
    rw [o3 337 _ (by omega) (by omega) (by omega), c2.2 q q1 q2, c6.1 337 _ (by omega), c3.1 337 _ (by omega)]
    exact hX 337 _ (by omega)
  have hr := hR.2.1
  rcases hG with ⟨g1, g2, g3, g4⟩ | hG
  · -- no routine
    refine ⟨0, 0, 0, _, _, _, _, _, _, cOk.none ?_, fun r q g => g.elim⟩
    have hc : cntK w 1 mm = 0 := by
      have hmm := g4.1.1.2.2.2.2.2.1.2.2.2.2
      have key : ∀ j : Nat, (j : Int) ≤ mm → cntK w 1 (j : Int) = 0 := fun j => by
        induction j with
        | zero => intro _; exact cntK_zero w 1
        | succ j ih =>
          intro hj
          have e0 := g4.2 (j : Int) (by omega) (by omega)
          rw [show ((j + 1 : Nat) : Int) = (j : Int) + 1 by omega, cntK_no (by omega) (by omega)]
          exact ih (by omega)
      have := key mm.toNat (by omega)
      rw [show ((mm.toNat : Nat) : Int) = mm by omega] at this
      exact this
    omega
  · have hT : GT w N n mm nt nw := hG
    have hc : cpy w w3 a n := ⟨fun p p1 p2 => ⟨by rw [f8 328 p (by decide) (by decide) p1 p2]; exact hF 328 _ no_bm_0, by rw [f8 330 p (by decide) (by decide) p1 p2]; exact hF 330 _ no_bm_1⟩, ft⟩
    have hA : cpyA w w3 a n := fun p p1 p2 => by
      have q := hR.all hG.1.1.2 p1 p2
      rw [f8 329 p (by decide) (by decide) p1 p2, e38]
      exact ⟨q.1, q.2, fun g => hR.2.2.2.2.2 p p1 p2 g⟩
    refine ⟨n, nt, nw, _, _, _, _, _, _, hT.cOk hc hA hR.2.2.1 (by omega) hnt hnw (fun q q1 q2 => ?_), fun r q g => g.1⟩
    rw [e38] at q2
    obtain ⟨m, m1, m2, m3, m4⟩ := hR.2.2.2.2.1 q q1 (by omega)
    rw [f7 q q1 (by omega), m4]
    exact hG.1.2.2.2.2.1 m m1 m2 m3
end
end
-- part bn
section
noncomputable section
theorem c_356_x {d : Nat} (hd : 25 ≤ d) {w : eW} (hT : e_Has mTy w) (hH : e_Has hTy w) {N n mm : Int} (hN : N ≤ 4000) (hm : w 275 94 = mm) (hmm : 0 ≤ mm ∧ mm ≤ 4099) (hnr : 0 ≤ n ∧ n ≤ 9900) (hp : w 275 88 = 0 → NM w N n mm ∧ nK w n mm (fun _ => False)) (h9 : w 339 4 = 0) (h8 : w 338 4 = 0) : e_Ok 20 elay ecode eI d 356 (0, [(0, (1, 275))], [], w) (fun r w' => r = [] ∧ e_fr mRsv w w' ∧ e_Has mTy w' ∧ e_Has hTy w' ∧ ((w 275 88 ≠ 0 ∧ w = w') ∨ (w 275 88 = 0 ∧ (w' 275 88 = 0 → RS w w' n mm mm)))) := by
  by_cases c : w 275 88 = 0
  · exact (c_356 hd hT hH hN hm hmm hnr c (hp c).1 (hp c).2 h9 h8).imp (fun r w' q => ⟨q.1, q.2.1, q.2.2.1, q.2.2.2.1, Or.inr ⟨c, q.2.2.2.2⟩⟩)
  · exact (c_356_0 (e_dq0 hd rfl) hT hH hN hm hmm hnr c).imp (fun r w' q => by obtain ⟨q1, rfl⟩ := q; exact ⟨q1, e_fr.refl w, hT, hH, Or.inl ⟨c, rfl⟩⟩)
theorem no_bn_0 {n : Int} {nt : Int} {nw : Int} {m : Int} {k : Int} : ¬ mStm n nt nw m 338 k := by unfold mStm; omega
theorem no_bn_1 {n : Int} {nt : Int} {nw : Int} {m : Int} {k : Int} : ¬ mStm n nt nw m 339 k := by unfold mStm; omega
theorem no_bn_2 : ¬ mRsv 275 78 := by unfold mRsv; omega
set_option maxHeartbeats 4000000 in
theorem c_357 {d : Nat} (hd : 424 ≤ d) {w : eW} (hT : e_Has mTy w) (hH : e_Has hTy w) {p1 : Int} (g1 : -2147483648 ≤ p1 ∧ p1 ≤ 2147483647) : e_Ok 20 elay ecode eI d 357 (0, [(0, (1, 275)), (1, (0, p1))], [], w) (fun r w' => ∃ z : Int, r = [(0, z)] ∧ ((w = w' ∧ ¬ (w 275 3 = 0 ∧ 0 ≤ p1 ∧ p1 < w 275 10)) ∨ (w 275 3 = 0 ∧ (0 ≤ p1 ∧ p1 < w 275 10) ∧ e_fr (mPg p1) w w' ∧ e_Has mTy w' ∧ e_Has hTy w' ∧ w' 275 9 = 0 ∧ (prS w w' p1 ∨ ∃ (n' nt' nw' : Int) (dl sg pi en : Int → Int) (an br : Int → Int → Prop), cOk w' p1 n' nt' nw' dl sg pi en an br ∧ ∀ r q, br r q → 0 ≤ q ∧ q < nw')))) := by
  obtain ⟨d, rfl⟩ : ∃ e, d = e + 1 := ⟨d - 1, by omega⟩
  have hop := e_Has.get hT (c := 275) (k := 3) (lo := 0) (hi := 1) (mt_o rfl) (by decide)
  have h9 := e_Has.get hH (c := 275) (k := 9) (lo := 0) (hi := 4000) rfl (by decide)
  have h10 := e_Has.get hT (c := 275) (k := 10) (lo := 0) (hi := 4) (mt_o rfl) (by decide)
  refine e_Ok.ps2 (x := (0, p1)) (y := (1, 275)) (q := 2) 2 rfl ?_
  refine e_Ok.callV rfl (e_dq hd rfl) rfl rfl rfl rfl (c_270 (e_dq hd rfl) hT) (fun r1 w2 h3 => ?_)
  have h4 := e_Has.get hT (c := 275) (k := 10) (lo := 0) (hi := 4) (mt_o rfl) (by decide)
  obtain ⟨z5, rfl, rfl, q6⟩ := h3
  obtain ⟨rfl, q6⟩ | ⟨rfl, q6⟩ := q6
  · refine e_Ok.nrm (q := 5) (st' := [(0, 1)]) rfl rfl ?_
    refine e_Ok.if1 rfl (fun h7 => ?_) (fun h7 => ?_)
    · replace h7 : (1 : Int) ≠ 0 := h7
      refine e_Ok.ps1 (x := (1, 275)) (q := 11) 1 rfl ?_
      refine e_Ok.getf (z := w 275 3) rfl (el_o rfl) rfl (ef_o rfl) rfl (by omega) ?_
      refine e_Ok.if1 rfl (fun h8 => ?_) (fun h8 => ?_)
      · replace h8 : (w 275 3 : Int) = 0 := h8
        refine e_Ok.ps2 (x := (0, 1)) (y := (1, 275)) (q := 22) 2 rfl ?_
        refine e_Ok.putb rfl (el_o rfl) rfl (ef_o rfl) (by omega) ?_
        generalize hw9 : e_up w 275 95 1 = w9
        have hH11 : e_Has hTy w9 := e_Has.upr hH hw9 rfl (by omega)
        have hT12 : e_Has mTy w9 := e_Has.ups hT hw9 (mt_o rfl)
        refine e_Ok.ps2 (x := (0, 0)) (y := (1, 275)) (q := 27) 2 rfl ?_
        refine e_Ok.putf rfl (el_o rfl) rfl (ef_o rfl) ?_
        generalize hw13 : e_up w9 275 88 0 = w13
        have hH15 : e_Has hTy w13 := e_Has.upr hH11 hw13 rfl (by omega)
        have hT16 : e_Has mTy w13 := e_Has.ups hT12 hw13 (mt_o rfl)
        refine e_Ok.ps2 (x := (0, (-1))) (y := (1, 275)) (q := 32) 2 rfl ?_
        refine e_Ok.putf rfl (el_o rfl) rfl (ef_o rfl) ?_
        generalize hw17 : e_up w13 275 89 (-1) = w17
        have hH19 : e_Has hTy w17 := e_Has.upr hH15 hw17 rfl (by omega)
        have hT20 : e_Has mTy w17 := e_Has.ups hT16 hw17 (mt_o rfl)
        refine e_Ok.ps2 (x := (0, 0)) (y := (1, 275)) (q := 37) 2 rfl ?_
        refine e_Ok.putf rfl (el_o rfl) rfl (ef_o rfl) ?_
        generalize hw21 : e_up w17 275 78 0 = w21
        have hH23 : e_Has hTy w21 := e_Has.ups hH19 hw21 rfl
        have hT24 : e_Has mTy w21 := e_Has.ups hT20 hw21 (mt_o rfl)
        refine e_Ok.ps2 (x := (0, 0)) (y := (1, 275)) (q := 42) 2 rfl ?_
        refine e_Ok.putf rfl (el_o rfl) rfl (ef_o rfl) ?_
        generalize hw25 : e_up w21 275 79 0 = w25
        have hH27 : e_Has hTy w25 := e_Has.ups hH23 hw25 rfl
        have hT28 : e_Has mTy w25 := e_Has.ups hT24 hw25 (mt_o rfl)
        refine e_Ok.ps2 (x := (0, 0)) (y := (1, 275)) (q := 47) 2 rfl ?_
        refine e_Ok.putf rfl (el_o rfl) rfl (ef_o rfl) ?_
        generalize hw29 : e_up w25 275 80 0 = w29
        have hH31 : e_Has hTy w29 := e_Has.ups hH27 hw29 rfl
        have hT32 : e_Has mTy w29 := e_Has.ups hT28 hw29 (mt_o rfl)
        refine e_Ok.ps2 (x := (0, (-1))) (y := (1, 275)) (q := 52) 2 rfl ?_
        refine e_Ok.putf rfl (el_o rfl) rfl (ef_o rfl) ?_
        generalize hw33 : e_up w29 275 81 (-1) = w33
        have hH35 : e_Has hTy w33 := e_Has.ups hH31 hw33 rfl
        have hT36 : e_Has mTy w33 := e_Has.ups hT32 hw33 (mt_o rfl)
        refine e_Ok.ps2 (x := (0, (-1))) (y := (1, 275)) (q := 57) 2 rfl ?_
        refine e_Ok.putf rfl (el_o rfl) rfl (ef_o rfl) ?_
        generalize hw37 : e_up w33 275 82 (-1) = w37
        have hH40 : e_Has hTy w37 := e_Has.ups hH35 hw37 rfl
        have hT41 : e_Has mTy w37 := e_Has.ups hT36 hw37 (mt_o rfl)
        refine e_Ok.ps2 (x := (0, 0)) (y := (1, 275)) (q := 62) 2 rfl ?_
        refine e_Ok.putf rfl (el_o rfl) rfl (ef_o rfl) ?_
        generalize hw42 : e_up w37 275 83 0 = w42
        have f43 : e_fr mPs w w42 := e_fr.up (show e_fr mPs w w37 from e_fr.up (show e_fr mPs w w33 from e_fr.up (show e_fr mPs w w29 from e_fr.up (show e_fr mPs w w25 from e_fr.up (show e_fr mPs w w21 from e_fr.up (show e_fr mPs w w17 from e_fr.up (show e_fr mPs w w13 from e_fr.up (show e_fr mPs w w9 from e_fr.up (e_fr.refl w) hw9 (by first | exact Or.inr (Or.inr (Or.inr (Or.inr (Or.inr ⟨rfl, Or.inr (Or.inr (Or.inr rfl))⟩)))) | (unfold mPs; omega))) hw13 (by first | exact Or.inr (Or.inr (Or.inr (Or.inr (Or.inr ⟨rfl, Or.inr (Or.inl ⟨(by decide), (by decide)⟩)⟩)))) | (unfold mPs; omega))) hw17 (by first | exact Or.inr (Or.inr (Or.inr (Or.inr (Or.inr ⟨rfl, Or.inr (Or.inl ⟨(by decide), (by decide)⟩)⟩)))) | (unfold mPs; omega))) hw21 (by first | exact Or.inr (Or.inr (Or.inr (Or.inr (Or.inr ⟨rfl, Or.inr (Or.inl ⟨(by decide), (by decide)⟩)⟩)))) | (unfold mPs; omega))) hw25 (by first | exact Or.inr (Or.inr (Or.inr (Or.inr (Or.inr ⟨rfl, Or.inr (Or.inl ⟨(by decide), (by decide)⟩)⟩)))) | (unfold mPs; omega))) hw29 (by first | exact Or.inr (Or.inr (Or.inr (Or.inr (Or.inr ⟨rfl, Or.inr (Or.inl ⟨(by decide), (by decide)⟩)⟩)))) | (unfold mPs; omega))) hw33 (by first | exact Or.inr (Or.inr (Or.inr (Or.inr (Or.inr ⟨rfl, Or.inr (Or.inl ⟨(by decide), (by decide)⟩)⟩)))) | (unfold mPs; omega))) hw37 (by first | exact Or.inr (Or.inr (Or.inr (Or.inr (Or.inr ⟨rfl, Or.inr (Or.inl ⟨(by decide), (by decide)⟩)⟩)))) | (unfold mPs; omega))) hw42 (by first | exact Or.inr (Or.inr (Or.inr (Or.inr (Or.inr ⟨rfl, Or.inr (Or.inl ⟨(by decide), (by decide)⟩)⟩)))) | (unfold mPs; omega))
        have hH44 : e_Has hTy w42 := e_Has.ups hH40 hw42 rfl
        have hT45 : e_Has mTy w42 := e_Has.ups hT41 hw42 (mt_o rfl)
        refine e_Ok.ps2 (x := (0, 0)) (y := (1, 275)) (q := 67) 2 rfl ?_
        refine e_Ok.putf rfl (el_o rfl) rfl (ef_o rfl) ?_
        generalize hw46 : e_up w42 275 94 0 = w46
        have hH48 : e_Has hTy w46 := e_Has.ups hH44 hw46 rfl
        have hT49 : e_Has mTy w46 := e_Has.ups hT45 hw46 (mt_o rfl)
        refine e_Ok.ps1 (x := (1, 275)) (q := 71) 1 rfl ?_
        refine e_Ok.getr (z := 339) rfl (el_o rfl) rfl (ef_o rfl) (e_uq hw46 (Or.inr (by decide)) (e_uq hw42 (Or.inr (by decide)) (e_uq hw37 (Or.inr (by decide)) (e_uq hw33 (Or.inr (by decide)) (e_uq hw29 (Or.inr (by decide)) (e_uq hw25 (Or.inr (by decide)) (e_uq hw21 (Or.inr (by decide)) (e_uq hw17 (Or.inr (by decide)) (e_uq hw13 (Or.inr (by decide)) (e_uq hw9 (Or.inr (by decide)) (e_Has.eq hT (mt_o rfl)))))))))))) ⟨by decide, by decide⟩ ?_
        refine e_Ok.ps2 (x := (0, 0)) (y := (0, 4)) (q := 76) 2 rfl ?_
        refine e_Ok.ast rfl (el_o rfl) rfl rfl (by omega) ?_
        generalize hw50 : e_up w46 339 4 0 = w50
        have hH52 : e_Has hTy w50 := e_Has.ups hH48 hw50 rfl
        have hT53 : e_Has mTy w50 := e_Has.upr hT49 hw50 (mt_o rfl) (by omega)
        refine e_Ok.ps1 (x := (1, 275)) (q := 78) 1 rfl ?_
        refine e_Ok.getr (z := 338) rfl (el_o rfl) rfl (ef_o rfl) (e_uq hw50 (Or.inl (by decide)) (e_uq hw46 (Or.inr (by decide)) (e_uq hw42 (Or.inr (by decide)) (e_uq hw37 (Or.inr (by decide)) (e_uq hw33 (Or.inr (by decide)) (e_uq hw29 (Or.inr (by decide)) (e_uq hw25 (Or.inr (by decide)) (e_uq hw21 (Or.inr (by decide)) (e_uq hw17 (Or.inr (by decide)) (e_uq hw13 (Or.inr (by decide)) (e_uq hw9 (Or.inr (by decide)) (e_Has.eq hT (mt_o rfl))))))))))))) ⟨by decide, by decide⟩ ?_
        refine e_Ok.ps2 (x := (0, 0)) (y := (0, 4)) (q := 83) 2 rfl ?_
        refine e_Ok.ast rfl (el_o rfl) rfl rfl (by omega) ?_
        generalize hw54 : e_up w50 338 4 0 = w54
        have hH56 : e_Has hTy w54 := e_Has.ups hH52 hw54 rfl
        have hT57 : e_Has mTy w54 := e_Has.upr hT53 hw54 (mt_o rfl) (by omega)
        refine e_Ok.ps2 (x := (0, 0)) (y := (1, 275)) (q := 86) 2 rfl ?_
        refine e_Ok.putf rfl (el_o rfl) rfl (ef_o rfl) ?_
        generalize hw58 : e_up w54 275 87 0 = w58
        have hH60 : e_Has hTy w58 := e_Has.ups hH56 hw58 rfl
        have hT61 : e_Has mTy w58 := e_Has.ups hT57 hw58 (mt_o rfl)
        refine e_Ok.ps1 (x := (1, 275)) (q := 90) 1 rfl ?_
        refine e_Ok.callV rfl (e_dq hd rfl) rfl rfl rfl rfl (c_327 (e_dq hd rfl) hT61 hH60 (show w58 275 9 = w 275 9 from (e_uq hw58 (Or.inr (by first | decide | omega)) (e_uq hw54 (Or.inl (by first | decide | omega)) (e_uq hw50 (Or.inl (by first | decide | omega)) (e_uq hw46 (Or.inr (by first | decide | omega)) (e_uq hw42 (Or.inr (by first | decide | omega)) (e_uq hw37 (Or.inr (by first | decide | omega)) (e_uq hw33 (Or.inr (by first | decide | omega)) (e_uq hw29 (Or.inr (by first | decide | omega)) (e_uq hw25 (Or.inr (by first | decide | omega)) (e_uq hw21 (Or.inr (by first | decide | omega)) (e_uq hw17 (Or.inr (by first | decide | omega)) (e_uq hw13 (Or.inr (by first | decide | omega)) (e_uq hw9 (Or.inr (by first | decide | omega)) rfl)))))))))))))) h9 (t := 0) (show w58 275 87 = 0 from (e_ue hw58)) (by omega)) (fun r62 w63 h64 => ?_)
        obtain ⟨rfl, q, qs, qt⟩ := h64
        have hz : w63 275 78 = 0 ∧ w63 275 79 = 0 ∧ w63 275 80 = 0 ∧ w63 275 81 = -1 ∧ w63 275 82 = -1 ∧ w63 275 83 = 0 ∧ w63 275 94 = 0 := ⟨Eq.trans (q 275 78 (mTq_fld (by decide))) (show w58 275 78 = 0 from (e_uq hw58 (Or.inr (by decide)) (e_uq hw54 (Or.inl (by decide)) (e_uq hw50 (Or.inl (by decide)) (e_uq hw46 (Or.inr (by decide)) (e_uq hw42 (Or.inr (by decide)) (e_uq hw37 (Or.inr (by decide)) (e_uq hw33 (Or.inr (by decide)) (e_uq hw29 (Or.inr (by decide)) (e_uq hw25 (Or.inr (by decide)) (e_ue hw21))))))))))), Eq.trans (q 275 79 (mTq_fld (by decide))) (show w58 275 79 = 0 from (e_uq hw58 (Or.inr (by decide)) (e_uq hw54 (Or.inl (by decide)) (e_uq hw50 (Or.inl (by decide)) (e_uq hw46 (Or.inr (by decide)) (e_uq hw42 (Or.inr (by decide)) (e_uq hw37 (Or.inr (by decide)) (e_uq hw33 (Or.inr (by decide)) (e_uq hw29 (Or.inr (by decide)) (e_ue hw25)))))))))), Eq.trans (q 275 80 (mTq_fld (by decide))) (show w58 275 80 = 0 from (e_uq hw58 (Or.inr (by decide)) (e_uq hw54 (Or.inl (by decide)) (e_uq hw50 (Or.inl (by decide)) (e_uq hw46 (Or.inr (by decide)) (e_uq hw42 (Or.inr (by decide)) (e_uq hw37 (Or.inr (by decide)) (e_uq hw33 (Or.inr (by decide)) (e_ue hw29))))))))), Eq.trans (q 275 81 (mTq_fld (by decide))) (show w58 275 81 = (-1) from (e_uq hw58 (Or.inr (by decide)) (e_uq hw54 (Or.inl (by decide)) (e_uq hw50 (Or.inl (by decide)) (e_uq hw46 (Or.inr (by decide)) (e_uq hw42 (Or.inr (by decide)) (e_uq hw37 (Or.inr (by decide)) (e_ue hw33)))))))), Eq.trans (q 275 82 (mTq_fld (by decide))) (show w58 275 82 = (-1) from (e_uq hw58 (Or.inr (by decide)) (e_uq hw54 (Or.inl (by decide)) (e_uq hw50 (Or.inl (by decide)) (e_uq hw46 (Or.inr (by decide)) (e_uq hw42 (Or.inr (by decide)) (e_ue hw37))))))), Eq.trans (q 275 83 (mTq_fld (by decide))) (show w58 275 83 = 0 from (e_uq hw58 (Or.inr (by decide)) (e_uq hw54 (Or.inl (by decide)) (e_uq hw50 (Or.inl (by decide)) (e_uq hw46 (Or.inr (by decide)) (e_ue hw42)))))), Eq.trans (q 275 94 (mTq_fld (by decide))) (show w58 275 94 = 0 from (e_uq hw58 (Or.inr (by decide)) (e_uq hw54 (Or.inl (by decide)) (e_uq hw50 (Or.inl (by decide)) (e_ue hw46)))))⟩
        have h88 : w63 275 88 = 0 := Eq.trans (q 275 88 (mTq_fld (by decide))) (show w58 275 88 = 0 from (e_uq hw58 (Or.inr (by decide)) (e_uq hw54 (Or.inl (by decide)) (e_uq hw50 (Or.inl (by decide)) (e_uq hw46 (Or.inr (by decide)) (e_uq hw42 (Or.inr (by decide)) (e_uq hw37 (Or.inr (by decide)) (e_uq hw33 (Or.inr (by decide)) (e_uq hw29 (Or.inr (by decide)) (e_uq hw25 (Or.inr (by decide)) (e_uq hw21 (Or.inr (by decide)) (e_uq hw17 (Or.inr (by decide)) (e_ue hw13)))))))))))))
        have h338 : w63 338 4 = 0 := Eq.trans (q 338 4 (mTq_not (by decide))) (show w58 338 4 = 0 from (e_uq hw58 (Or.inl (by decide)) (e_ue hw54)))
        have h339 : w63 339 4 = 0 := Eq.trans (q 339 4 (mTq_not (by decide))) (show w58 339 4 = 0 from (e_uq hw58 (Or.inl (by decide)) (e_uq hw54 (Or.inl (by decide)) (e_ue hw50))))
        have hcs : cSt w63 (w 275 9) := ⟨mT_Tq q hT61, hT_Tq q hH60, Eq.trans (q 275 9 (mTq_fld (by decide))) (show w58 275 9 = w 275 9 from (e_uq hw58 (Or.inr (by first | decide | omega)) (e_uq hw54 (Or.inl (by first | decide | omega)) (e_uq hw50 (Or.inl (by first | decide | omega)) (e_uq hw46 (Or.inr (by first | decide | omega)) (e_uq hw42 (Or.inr (by first | decide | omega)) (e_uq hw37 (Or.inr (by first | decide | omega)) (e_uq hw33 (Or.inr (by first | decide | omega)) (e_uq hw29 (Or.inr (by first | decide | omega)) (e_uq hw25 (Or.inr (by first | decide | omega)) (e_uq hw21 (Or.inr (by first | decide | omega)) (e_uq hw17 (Or.inr (by first | decide | omega)) (e_uq hw13 (Or.inr (by first | decide | omega)) (e_uq hw9 (Or.inr (by first | decide | omega)) rfl)))))))))))))), qs, by rw [hz.2.2.2.1]; decide⟩
        have xt1 := tkS.lin hcs.2.2.2.1
        refine e_Ok.nrm (q := 93) (st' := []) rfl rfl ?_
        refine e_Ok.ps1 (x := (1, 275)) (q := 94) 1 rfl ?_
        refine e_Ok.callV rfl (e_dq hd rfl) rfl rfl rfl rfl (c_353 (e_dq hd rfl) hcs h9 h88 hz) (fun r65 w66 h67 => ?_)
        obtain ⟨rfl, xF, xc, xl, xg⟩ := h67
        rw [hz.1, hz.2.1, hz.2.2.1, hz.2.2.2.2.2.2] at xF
        unfold stL at xl
        rw [hz.1, hz.2.1, hz.2.2.1, hz.2.2.2.2.2.2] at xl
        rw [hz.2.2.2.1] at xg
        replace xg := (show Hid _ from xg)
        obtain ⟨x1, x2, x3, x4, x5, x6, -, -, -, -, -, -⟩ := xl
        have xt := tkS.lin xc.2.2.2.1
        have xk := e_Has.get xc.2.1 (c := 275) (k := 88) (lo := 0) (hi := 7) rfl (by decide)
        have x338 : w66 338 4 = 0 := Eq.trans (xF 338 4 (by first | exact no_bn_0 | (unfold mStm; omega))) h338
        have x339 : w66 339 4 = 0 := Eq.trans (xF 339 4 (by first | exact no_bn_1 | (unfold mStm; omega))) h339
        show e_Ok 20 elay ecode eI (d + 1) 357 (97, [(0, (1, 275)), (1, (0, p1))], [], w66) _
        refine e_Ok.ps1 (x := (1, 275)) (q := 98) 1 rfl ?_
        refine e_Ok.callV rfl (e_dq hd rfl) rfl rfl rfl rfl (c_356_x (e_dq hd rfl) xc.1 xc.2.1 (N := w 275 9) (n := w66 275 78) (mm := w66 275 94) (by omega) rfl (by omega) (by omega) (fun z => ⟨(GX.gb (xg.out z)).1.1.2, (GX.gb (xg.out z)).1.2.2.2.2.2.2.2.2.2.2⟩) x339 x338) (fun r68 w69 h70 => ?_)
        obtain ⟨rfl, rF, rT, rH, rq⟩ := h70
        replace rq := (show Hid _ from rq)
        have rk := e_Has.get rH (c := 275) (k := 88) (lo := 0) (hi := 7) rfl (by decide)
        refine e_Ok.nrm (q := 101) (st' := []) rfl rfl ?_
        refine e_Ok.ps2 (x := (0, 0)) (y := (1, 275)) (q := 103) 2 rfl ?_
        refine e_Ok.putf rfl (el_o rfl) rfl (ef_o rfl) ?_
        generalize hw71 : e_up w69 275 9 0 = w71
        have f72 : e_fr mPs w w71 := e_fr.up (show e_fr mPs w w69 from e_fr.trans (show e_fr mPs w w66 from e_fr.trans (show e_fr mPs w w63 from e_fr.trans (show e_fr mPs w w58 from e_fr.up (show e_fr mPs w w54 from e_fr.up (show e_fr mPs w w50 from e_fr.up (show e_fr mPs w w46 from e_fr.up f43 hw46 (by first | exact Or.inr (Or.inr (Or.inr (Or.inr (Or.inr ⟨rfl, Or.inr (Or.inr (Or.inl rfl))⟩)))) | (unfold mPs; omega))) hw50 (by first | exact Or.inr (Or.inr (Or.inr (Or.inl ⟨Or.inr rfl, rfl⟩))) | (unfold mPs; omega))) hw54 (by first | exact Or.inr (Or.inr (Or.inr (Or.inl ⟨Or.inl rfl, rfl⟩))) | (unfold mPs; omega))) hw58 (by first | exact Or.inr (Or.inr (Or.inr (Or.inr (Or.inr ⟨rfl, Or.inr (Or.inl ⟨(by decide), (by decide)⟩)⟩)))) | (unfold mPs; omega))) (e_fr.mono q (fun c k g => by unfold mTq at g; unfold mPs; omega))) (e_fr.mono xF (fun c k g => by unfold mStm at g; unfold mPs; omega))) (e_fr.mono rF (fun c k g => by unfold mRsv at g; unfold mPs; omega))) hw71 (by first | exact Or.inr (Or.inr (Or.inr (Or.inr (Or.inr ⟨rfl, Or.inl rfl⟩)))) | (unfold mPs; omega))
        have hH73 : e_Has hTy w71 := e_Has.upr rH hw71 rfl (by omega)
        have hT74 : e_Has mTy w71 := e_Has.ups rT hw71 (mt_o rfl)
        refine e_Ok.ps1 (x := (1, 275)) (q := 107) 1 rfl ?_
        have h75 := (e_Has.get rH (c := 275) (k := 88) (lo := 0) (hi := 7) rfl (by decide))
        refine e_Ok.getf (z := w69 275 88) rfl (el_o rfl) rfl (ef_o rfl) (e_uq hw71 (Or.inr (by decide)) rfl) (e_bq h75 (by decide) (by decide)) ?_
        refine e_Ok.if1 rfl (fun h76 => ?_) (fun h76 => ?_)
        · replace h76 : (w69 275 88 : Int) = 0 := h76
          have hX78 : w71 275 78 = w66 275 78 := (e_uq hw71 (Or.inr (by decide)) ((rF 275 78 no_bn_2).trans rfl))
          have hG2 : w66 275 88 = 0 ∧ RS w66 w69 (w66 275 78) (w66 275 94) (w66 275 94) := by rcases rq.out with ⟨y1, y2⟩ | ⟨y1, y2⟩; exact absurd (by rw [y2]; omega) y1; exact ⟨y1, y2 (by omega)⟩
          have hgx := xg.out hG2.1
          have hG21 := hG2.1
          replace x3 := x3 hG21
          have hnb : 0 ≤ w66 275 78 ∧ w66 275 78 ≤ 9900 := by omega
          have hnt : w66 275 79 ≤ 900 ∧ w66 275 80 ≤ 900 := by omega
          refine e_Ok.run (t' := (123, [(2, (0, 0)), (0, (1, 275)), (1, (0, p1))], [], w71)) 2 rfl ?_
          have hL77 : ∀ (nn : Nat) (y2 : Int) (v1 : eW), cp3 w71 v1 p1 y2 ∧ e_Has mTy v1 ∧ e_Has hTy v1 ∧ ((0 ≤ y2 ∧ y2 ≤ w66 275 78)) → 9900 - y2 < nn → e_Ok 20 elay ecode eI (d + 1) 357 (123, [(0, (1, 275)), (1, (0, p1)), (2, (0, y2))], [], v1) (fun r w' => ∃ z : Int, r = [(0, z)] ∧ ((w = w' ∧ ¬ (w 275 3 = 0 ∧ 0 ≤ p1 ∧ p1 < w 275 10)) ∨ (w 275 3 = 0 ∧ (0 ≤ p1 ∧ p1 < w 275 10) ∧ e_fr (mPg p1) w w' ∧ e_Has mTy w' ∧ e_Has hTy w' ∧ w' 275 9 = 0 ∧ (prS w w' p1 ∨ ∃ (n' nt' nw' : Int) (dl sg pi en : Int → Int) (an br : Int → Int → Prop), cOk w' p1 n' nt' nw' dl sg pi en an br ∧ ∀ r q, br r q → 0 ≤ q ∧ q < nw')))) := by
            intro nn
            induction nn with
            | zero => intro y2 v1 hj hm; obtain ⟨j79, j80, j81, j82⟩ := hj; exfalso; omega
            | succ nn ih78 =>
              intro y2 v1 hj hm
              obtain ⟨j79, j80, j81, j82⟩ := hj
              refine e_Ok.run (t' := (125, [(0, (1, 275)), (1, (0, p1)), (2, (0, y2))], [(1, 275), (0, y2)], v1)) 2 rfl ?_
              refine e_Ok.getf (z := w66 275 78) rfl (el_o rfl) rfl (ef_o rfl) (Eq.trans (j79.1 275 78 (by omega)) hX78) (by omega) ?_
              refine e_Ok.if2 rfl (fun h83 => ?_) (fun h83 => ?_)
              · replace h83 : (y2 : Int) ≥ w66 275 78 := h83
                refine e_Ok.run (t' := (205, [(2, (0, 0)), (0, (1, 275)), (1, (0, p1))], [], v1)) 2 rfl ?_
                have hL84 : ∀ (nn : Nat) (z2 : Int) (v2 : eW), cp6 v1 v2 p1 z2 ∧ e_Has mTy v2 ∧ e_Has hTy v2 ∧ ((0 ≤ z2 ∧ z2 ≤ 900)) → 900 - z2 < nn → e_Ok 20 elay ecode eI (d + 1) 357 (205, [(0, (1, 275)), (1, (0, p1)), (2, (0, z2))], [], v2) (fun r w' => ∃ z : Int, r = [(0, z)] ∧ ((w = w' ∧ ¬ (w 275 3 = 0 ∧ 0 ≤ p1 ∧ p1 < w 275 10)) ∨ (w 275 3 = 0 ∧ (0 ≤ p1 ∧ p1 < w 275 10) ∧ e_fr (mPg p1) w w' ∧ e_Has mTy w' ∧ e_Has hTy w' ∧ w' 275 9 = 0 ∧ (prS w w' p1 ∨ ∃ (n' nt' nw' : Int) (dl sg pi en : Int → Int) (an br : Int → Int → Prop), cOk w' p1 n' nt' nw' dl sg pi en an br ∧ ∀ r q, br r q → 0 ≤ q ∧ q < nw')))) := by
                  intro nn
                  induction nn with
                  | zero => intro z2 v2 hj hm; obtain ⟨j86, j87, j88, j89⟩ := hj; exfalso; omega
                  | succ nn ih85 =>
                    intro z2 v2 hj hm
                    obtain ⟨j86, j87, j88, j89⟩ := hj
                    refine e_Ok.run (t' := (209, [(0, (1, 275)), (1, (0, p1)), (2, (0, z2))], [(0, 900), (0, z2)], v2)) 2 rfl ?_
                    refine e_Ok.if2 rfl (fun h90 => ?_) (fun h90 => ?_)
                    · replace h90 : (z2 : Int) ≥ 900 := h90
                      refine e_Ok.run (t' := (352, [(2, (0, 0)), (0, (1, 275)), (1, (0, p1))], [], v2)) 2 rfl ?_
                      have hL91 : ∀ (nn : Nat) (t2 : Int) (v3 : eW), cp2 v2 v3 p1 t2 ∧ e_Has mTy v3 ∧ e_Has hTy v3 ∧ ((0 ≤ t2 ∧ t2 ≤ 32)) → 32 - t2 < nn → e_Ok 20 elay ecode eI (d + 1) 357 (352, [(0, (1, 275)), (1, (0, p1)), (2, (0, t2))], [], v3) (fun r w' => ∃ z : Int, r = [(0, z)] ∧ ((w = w' ∧ ¬ (w 275 3 = 0 ∧ 0 ≤ p1 ∧ p1 < w 275 10)) ∨ (w 275 3 = 0 ∧ (0 ≤ p1 ∧ p1 < w 275 10) ∧ e_fr (mPg p1) w w' ∧ e_Has mTy w' ∧ e_Has hTy w' ∧ w' 275 9 = 0 ∧ (prS w w' p1 ∨ ∃ (n' nt' nw' : Int) (dl sg pi en : Int → Int) (an br : Int → Int → Prop), cOk w' p1 n' nt' nw' dl sg pi en an br ∧ ∀ r q, br r q → 0 ≤ q ∧ q < nw')))) := by
                        intro nn
                        induction nn with
                        | zero => intro t2 v3 hj hm; obtain ⟨j93, j94, j95, j101⟩ := hj; exfalso; omega
                        | succ nn ih92 =>
                          intro t2 v3 hj hm
                          obtain ⟨j93, j94, j95, j101⟩ := hj
                          refine e_Ok.run (t' := (355, [(0, (1, 275)), (1, (0, p1)), (2, (0, t2))], [(0, 32), (0, t2)], v3)) 2 rfl ?_
                          refine e_Ok.if2 rfl (fun h103 => ?_) (fun h103 => ?_)
                          · replace h103 : (t2 : Int) ≥ 32 := h103
                            refine e_Ok.ps1 (x := (1, 275)) (q := 402) 1 rfl ?_
                            refine e_Ok.getr (z := 338) rfl (el_o rfl) rfl (ef_o rfl) (e_Has.eq j94 rfl) ⟨by decide, by decide⟩ ?_
                            refine e_Ok.ps2 (x := (1, 275)) (y := (0, p1)) (q := 407) 2 rfl ?_
                            refine e_Ok.getr (z := 338) rfl (el_o rfl) rfl (ef_o rfl) (e_Has.eq j94 rfl) ⟨by decide, by decide⟩ ?_
                            refine e_Ok.ps1 (x := (0, 4)) (q := 411) 1 rfl ?_
                            have h104 := (e_Has.get j94 (c := 338) (k := 4) (lo := 0) (hi := 32) rfl (by decide))
                            refine e_Ok.ald (z := v3 338 4) rfl (el_o rfl) rfl (by omega) rfl (e_bq h104 (by decide) (by decide)) ?_
                            refine e_Ok.ast rfl (el_o rfl) rfl rfl (by omega) ?_
                            generalize hw105 : e_up v3 338 p1 (v3 338 4) = w105
                            have hH106 : e_Has hTy w105 := e_Has.ups j95 hw105 rfl
                            have hT107 : e_Has mTy w105 := e_Has.upr j94 hw105 rfl (by omega)
                            refine e_Ok.ps1 (x := (1, 275)) (q := 414) 1 rfl ?_
                            refine e_Ok.getr (z := 339) rfl (el_o rfl) rfl (ef_o rfl) (e_uq hw105 (Or.inl (by decide)) (e_Has.eq j94 rfl)) ⟨by decide, by decide⟩ ?_
                            refine e_Ok.ps2 (x := (1, 275)) (y := (0, p1)) (q := 419) 2 rfl ?_
                            refine e_Ok.getr (z := 339) rfl (el_o rfl) rfl (ef_o rfl) (e_uq hw105 (Or.inl (by decide)) (e_Has.eq j94 rfl)) ⟨by decide, by decide⟩ ?_
                            refine e_Ok.ps1 (x := (0, 4)) (q := 423) 1 rfl ?_
                            have h108 := (e_Has.get j94 (c := 339) (k := 4) (lo := 0) (hi := 32) rfl (by decide))
                            refine e_Ok.ald (z := v3 339 4) rfl (el_o rfl) rfl (by omega) (e_uq hw105 (Or.inl (by decide)) rfl) (e_bq h108 (by decide) (by decide)) ?_
                            refine e_Ok.ast rfl (el_o rfl) rfl rfl (by omega) ?_
                            generalize hw109 : e_up w105 339 p1 (v3 339 4) = w109
                            have hH110 : e_Has hTy w109 := e_Has.ups hH106 hw109 rfl
                            have hT111 : e_Has mTy w109 := e_Has.upr hT107 hw109 (mt_o rfl) (by omega)
                            refine e_Ok.ps1 (x := (1, 275)) (q := 426) 1 rfl ?_
                            refine e_Ok.getr (z := 340) rfl (el_o rfl) rfl (ef_o rfl) (e_uq hw109 (Or.inl (by decide)) (e_uq hw105 (Or.inl (by decide)) (e_Has.eq j94 rfl))) ⟨by decide, by decide⟩ ?_
                            refine e_Ok.ps2 (x := (0, 1)) (y := (0, p1)) (q := 431) 2 rfl ?_
                            refine e_Ok.ast rfl (el_o rfl) rfl (e_nar_b (by omega)) (by omega) ?_
                            generalize hw112 : e_up w109 340 p1 1 = w112
                            have hH113 : e_Has hTy w112 := e_Has.ups hH110 hw112 rfl
                            have hT114 : e_Has mTy w112 := e_Has.upr hT111 hw112 (mt_o rfl) (by omega)
                            refine e_Ok.ps1 (x := (1, 275)) (q := 433) 1 rfl ?_
                            refine e_Ok.getr (z := 338) rfl (el_o rfl) rfl (ef_o rfl) (e_uq hw112 (Or.inl (by decide)) (e_uq hw109 (Or.inl (by decide)) (e_uq hw105 (Or.inl (by decide)) (e_Has.eq j94 rfl)))) ⟨by decide, by decide⟩ ?_
                            refine e_Ok.ps1 (x := (0, p1)) (q := 437) 1 rfl ?_
                            refine e_Ok.ald (z := v3 338 4) rfl (el_o rfl) rfl (by omega) (e_uq hw112 (Or.inl (by decide)) (e_uq hw109 (Or.inl (by decide)) (e_ue hw105))) (by omega) ?_
                            refine e_Ok.rets rfl rfl ?_
                            have hfr : e_fr (mPg p1) w w112 := fun c k g => by
                              have g' := g
                              unfold mPg mPs at g'
                              rw [← hw112, e_up_ne _ _ (by omega), ← hw109, e_up_ne _ _ (by omega), ← hw105, e_up_ne _ _ (by omega), j93.1 c k (by omega), j86.1 c k (by omega), j79.1 c k (by omega)]
                              exact f72 c k (fun y => g (Or.inl y))
                            have hp9 : w112 275 9 = 0 := by rw [← hw112, e_up_ne _ _ (Or.inl (by decide)), ← hw109, e_up_ne _ _ (Or.inl (by decide)), ← hw105, e_up_ne _ _ (Or.inl (by decide)), j93.1 275 9 (by omega), j86.1 275 9 (by omega), j79.1 275 9 (by omega), ← hw71]; exact e_up_eq _ _ _ _
                            exact ⟨_, rfl, Or.inr ⟨by omega, by omega, hfr, hT114, hH113, hp9, Or.inr (prog_ok hgx hG2.2 rF (fun c k g => by rw [← hw71]; exact e_up_ne _ _ (by omega)) (by omega) hnb hnt.1 hnt.2 (show cp3 w71 v1 p1 (w66 275 78) from by have y := j79; rw [show y2 = w66 275 78 by omega] at y; exact y) (show cp6 v1 v2 p1 900 from by have y := j86; rw [show z2 = 900 by omega] at y; exact y) (show cp2 v2 v3 p1 32 from by have y := j93; rw [show t2 = 32 by omega] at y; exact y) hw105 rfl ⟨_, hw109⟩ hw112)⟩⟩
                          · replace h103 : (t2 : Int) < 32 := Int.not_le.mp (show ¬ ((t2 : Int) ≥ 32) from h103)
                            refine e_Ok.ps1 (x := (1, 275)) (q := 359) 1 rfl ?_
                            refine e_Ok.getr (z := 337) rfl (el_o rfl) rfl (ef_o rfl) (e_Has.eq j94 rfl) ⟨by decide, by decide⟩ ?_
                            refine e_Ok.ps2 (x := (0, p1)) (y := (0, 32)) (q := 365) 2 rfl ?_
                            refine e_Ok.mul (z := 32 * p1) rfl rfl (by omega) ?_
                            refine e_Ok.ps1 (x := (0, t2)) (q := 367) 1 rfl ?_
                            refine e_Ok.add (z := 32 * p1 + t2) rfl rfl (by omega) ?_
                            refine e_Ok.ps1 (x := (1, 275)) (q := 369) 1 rfl ?_
                            refine e_Ok.getr (z := 337) rfl (el_o rfl) rfl (ef_o rfl) (e_Has.eq j94 rfl) ⟨by decide, by decide⟩ ?_
                            refine e_Ok.ps2 (x := (0, t2)) (y := (0, 128)) (q := 376) 2 rfl ?_
                            refine e_Ok.add (z := t2 + 128) rfl (Int.add_comm _ _) (by omega) ?_
                            have h115 := (e_Has.get j94 (c := 337) (k := t2 + 128) (lo := (-2147483648)) (hi := 2147483647) rfl (by decide))
                            refine e_Ok.ald (z := v3 337 (t2 + 128)) rfl (el_o rfl) rfl (by omega) rfl (e_bq h115 (by decide) (by decide)) ?_
                            refine e_Ok.ast rfl (el_o rfl) rfl rfl (by omega) ?_
                            generalize hw116 : e_up v3 337 (32 * p1 + t2) (v3 337 (t2 + 128)) = w116
                            have hH117 : e_Has hTy w116 := e_Has.ups j95 hw116 rfl
                            have hT118 : e_Has mTy w116 := e_Has.upr j94 hw116 rfl (by omega)
                            refine e_Ok.ps1 (x := (1, 275)) (q := 380) 1 rfl ?_
                            refine e_Ok.getr (z := 276) rfl (el_o rfl) rfl (ef_o rfl) (e_uq hw116 (Or.inl (by decide)) (e_Has.eq j94 rfl)) ⟨by decide, by decide⟩ ?_
                            refine e_Ok.ps3 (x := (0, p1)) (y := (0, 32)) (z := (0, 20932)) (q := 389) 3 rfl ?_
                            refine e_Ok.mul (z := 32 * p1) rfl rfl (by omega) ?_
                            refine e_Ok.add (z := 32 * p1 + 20932) rfl (Int.add_comm _ _) (by omega) ?_
                            refine e_Ok.ps1 (x := (0, t2)) (q := 392) 1 rfl ?_
                            refine e_Ok.add (z := 32 * p1 + t2 + 20932) rfl (by omega) (by omega) ?_
                            refine e_Ok.ps1 (x := (0, 0)) (q := 394) 1 rfl ?_
                            refine e_Ok.ast rfl (el_o rfl) rfl rfl (by omega) ?_
                            generalize hw119 : e_up w116 276 (32 * p1 + t2 + 20932) 0 = w119
                            have hH120 : e_Has hTy w119 := e_Has.ups hH117 hw119 rfl
                            have hT121 : e_Has mTy w119 := e_Has.upr hT118 hw119 (nR_mid (by omega)) (by omega)
                            refine e_Ok.inc (z := t2 + 1) rfl rfl (by first | with_reducible rfl | omega) (by omega) ?_
                            show e_Ok 20 elay ecode eI (d + 1) 357 (398, [(2, (0, t2 + 1)), (0, (1, 275)), (1, (0, p1))], [], w119) _
                            refine e_Ok.ps0 (q := 352) 1 rfl ?_
                            refine e_Ok.sub eAlk (e_sub_of rfl ?_) (ih92 (t2 + 1) w119 ⟨(cp2.next j93 (by omega) (by omega) hw116 hw119), hT121, hH120, by omega⟩ (by omega))
                            exact ⟨rfl, rfl, rfl, trivial⟩
                      refine e_Ok.sub eAlk (e_sub_of rfl ?_) (hL91 (33 + 1 : Int).toNat 0 v2 ⟨(cp2.zero _ _), j87, j88, by omega⟩ (by omega))
                      exact ⟨rfl, rfl, rfl, trivial⟩
                    · replace h90 : (z2 : Int) < 900 := Int.not_le.mp (show ¬ ((z2 : Int) ≥ 900) from h90)
                      refine e_Ok.ps1 (x := (1, 275)) (q := 213) 1 rfl ?_
                      refine e_Ok.getr (z := 331) rfl (el_o rfl) rfl (ef_o rfl) (e_Has.eq j87 rfl) ⟨by decide, by decide⟩ ?_
                      refine e_Ok.ps2 (x := (0, p1)) (y := (0, 900)) (q := 220) 2 rfl ?_
                      refine e_Ok.mul (z := 900 * p1) rfl rfl (by omega) ?_
                      refine e_Ok.ps1 (x := (0, z2)) (q := 222) 1 rfl ?_
                      refine e_Ok.add (z := 900 * p1 + z2) rfl rfl (by omega) ?_
                      refine e_Ok.ps1 (x := (1, 275)) (q := 224) 1 rfl ?_
                      refine e_Ok.getr (z := 331) rfl (el_o rfl) rfl (ef_o rfl) (e_Has.eq j87 rfl) ⟨by decide, by decide⟩ ?_
                      refine e_Ok.ps2 (x := (0, z2)) (y := (0, 3600)) (q := 231) 2 rfl ?_
                      refine e_Ok.add (z := z2 + 3600) rfl (Int.add_comm _ _) (by omega) ?_
                      have h122 := (e_Has.get j87 (c := 331) (k := z2 + 3600) (lo := (-2147483648)) (hi := 2147483647) rfl (by decide))
                      refine e_Ok.ald (z := v2 331 (z2 + 3600)) rfl (el_o rfl) rfl (by omega) rfl (e_bq h122 (by decide) (by decide)) ?_
                      refine e_Ok.ast rfl (el_o rfl) rfl rfl (by omega) ?_
                      generalize hw123 : e_up v2 331 (900 * p1 + z2) (v2 331 (z2 + 3600)) = w123
                      have hH124 : e_Has hTy w123 := e_Has.ups j88 hw123 rfl
                      have hT125 : e_Has mTy w123 := e_Has.upr j87 hw123 rfl (by omega)
                      refine e_Ok.ps1 (x := (1, 275)) (q := 235) 1 rfl ?_
                      refine e_Ok.getr (z := 332) rfl (el_o rfl) rfl (ef_o rfl) (e_uq hw123 (Or.inl (by decide)) (e_Has.eq j87 rfl)) ⟨by decide, by decide⟩ ?_
                      refine e_Ok.ps2 (x := (0, p1)) (y := (0, 900)) (q := 242) 2 rfl ?_
                      refine e_Ok.mul (z := 900 * p1) rfl rfl (by omega) ?_
                      refine e_Ok.ps1 (x := (0, z2)) (q := 244) 1 rfl ?_
                      refine e_Ok.add (z := 900 * p1 + z2) rfl rfl (by omega) ?_
                      refine e_Ok.ps1 (x := (1, 275)) (q := 246) 1 rfl ?_
                      refine e_Ok.getr (z := 332) rfl (el_o rfl) rfl (ef_o rfl) (e_uq hw123 (Or.inl (by decide)) (e_Has.eq j87 rfl)) ⟨by decide, by decide⟩ ?_
                      refine e_Ok.ps2 (x := (0, z2)) (y := (0, 3600)) (q := 253) 2 rfl ?_
                      refine e_Ok.add (z := z2 + 3600) rfl (Int.add_comm _ _) (by omega) ?_
                      have h126 := (e_Has.get j87 (c := 332) (k := z2 + 3600) (lo := (-2147483648)) (hi := 2147483647) rfl (by decide))
                      refine e_Ok.ald (z := v2 332 (z2 + 3600)) rfl (el_o rfl) rfl (by omega) (e_uq hw123 (Or.inl (by decide)) rfl) (e_bq h126 (by decide) (by decide)) ?_
                      refine e_Ok.ast rfl (el_o rfl) rfl rfl (by omega) ?_
                      generalize hw127 : e_up w123 332 (900 * p1 + z2) (v2 332 (z2 + 3600)) = w127
                      have hH128 : e_Has hTy w127 := e_Has.ups hH124 hw127 rfl
                      have hT129 : e_Has mTy w127 := e_Has.upr hT125 hw127 (mt_o rfl) (by omega)
                      refine e_Ok.ps1 (x := (1, 275)) (q := 257) 1 rfl ?_
                      refine e_Ok.getr (z := 333) rfl (el_o rfl) rfl (ef_o rfl) (e_uq hw127 (Or.inl (by decide)) (e_uq hw123 (Or.inl (by decide)) (e_Has.eq j87 rfl))) ⟨by decide, by decide⟩ ?_
                      refine e_Ok.ps2 (x := (0, p1)) (y := (0, 900)) (q := 264) 2 rfl ?_
                      refine e_Ok.mul (z := 900 * p1) rfl rfl (by omega) ?_
                      refine e_Ok.ps1 (x := (0, z2)) (q := 266) 1 rfl ?_
                      refine e_Ok.add (z := 900 * p1 + z2) rfl rfl (by omega) ?_
                      refine e_Ok.ps1 (x := (1, 275)) (q := 268) 1 rfl ?_
                      refine e_Ok.getr (z := 333) rfl (el_o rfl) rfl (ef_o rfl) (e_uq hw127 (Or.inl (by decide)) (e_uq hw123 (Or.inl (by decide)) (e_Has.eq j87 rfl))) ⟨by decide, by decide⟩ ?_
                      refine e_Ok.ps2 (x := (0, z2)) (y := (0, 3600)) (q := 275) 2 rfl ?_
                      refine e_Ok.add (z := z2 + 3600) rfl (Int.add_comm _ _) (by omega) ?_
                      have h130 := (e_Has.get j87 (c := 333) (k := z2 + 3600) (lo := (-2147483648)) (hi := 2147483647) rfl (by decide))
                      refine e_Ok.ald (z := v2 333 (z2 + 3600)) rfl (el_o rfl) rfl (by omega) (e_uq hw127 (Or.inl (by decide)) (e_uq hw123 (Or.inl (by decide)) rfl)) (e_bq h130 (by decide) (by decide)) ?_
                      refine e_Ok.ast rfl (el_o rfl) rfl rfl (by omega) ?_
                      generalize hw131 : e_up w127 333 (900 * p1 + z2) (v2 333 (z2 + 3600)) = w131
                      have hH132 : e_Has hTy w131 := e_Has.ups hH128 hw131 rfl
                      have hT133 : e_Has mTy w131 := e_Has.upr hT129 hw131 (mt_o rfl) (by omega)
                      refine e_Ok.ps1 (x := (1, 275)) (q := 279) 1 rfl ?_
                      refine e_Ok.getr (z := 334) rfl (el_o rfl) rfl (ef_o rfl) (e_uq hw131 (Or.inl (by decide)) (e_uq hw127 (Or.inl (by decide)) (e_uq hw123 (Or.inl (by decide)) (e_Has.eq j87 rfl)))) ⟨by decide, by decide⟩ ?_
                      refine e_Ok.ps2 (x := (0, p1)) (y := (0, 900)) (q := 286) 2 rfl ?_
                      refine e_Ok.mul (z := 900 * p1) rfl rfl (by omega) ?_
                      refine e_Ok.ps1 (x := (0, z2)) (q := 288) 1 rfl ?_
                      refine e_Ok.add (z := 900 * p1 + z2) rfl rfl (by omega) ?_
                      refine e_Ok.ps1 (x := (1, 275)) (q := 290) 1 rfl ?_
                      refine e_Ok.getr (z := 334) rfl (el_o rfl) rfl (ef_o rfl) (e_uq hw131 (Or.inl (by decide)) (e_uq hw127 (Or.inl (by decide)) (e_uq hw123 (Or.inl (by decide)) (e_Has.eq j87 rfl)))) ⟨by decide, by decide⟩ ?_
                      refine e_Ok.ps2 (x := (0, z2)) (y := (0, 3600)) (q := 297) 2 rfl ?_
                      refine e_Ok.add (z := z2 + 3600) rfl (Int.add_comm _ _) (by omega) ?_
                      have h134 := (e_Has.get j87 (c := 334) (k := z2 + 3600) (lo := (-2147483648)) (hi := 2147483647) rfl (by decide))
                      refine e_Ok.ald (z := v2 334 (z2 + 3600)) rfl (el_o rfl) rfl (by omega) (e_uq hw131 (Or.inl (by decide)) (e_uq hw127 (Or.inl (by decide)) (e_uq hw123 (Or.inl (by decide)) rfl))) (e_bq h134 (by decide) (by decide)) ?_
                      refine e_Ok.ast rfl (el_o rfl) rfl rfl (by omega) ?_
                      generalize hw135 : e_up w131 334 (900 * p1 + z2) (v2 334 (z2 + 3600)) = w135
                      have hH136 : e_Has hTy w135 := e_Has.ups hH132 hw135 rfl
                      have hT137 : e_Has mTy w135 := e_Has.upr hT133 hw135 (mt_o rfl) (by omega)
                      refine e_Ok.ps1 (x := (1, 275)) (q := 301) 1 rfl ?_
                      refine e_Ok.getr (z := 335) rfl (el_o rfl) rfl (ef_o rfl) (e_uq hw135 (Or.inl (by decide)) (e_uq hw131 (Or.inl (by decide)) (e_uq hw127 (Or.inl (by decide)) (e_uq hw123 (Or.inl (by decide)) (e_Has.eq j87 rfl))))) ⟨by decide, by decide⟩ ?_
                      refine e_Ok.ps2 (x := (0, p1)) (y := (0, 900)) (q := 308) 2 rfl ?_
                      refine e_Ok.mul (z := 900 * p1) rfl rfl (by omega) ?_
                      refine e_Ok.ps1 (x := (0, z2)) (q := 310) 1 rfl ?_
                      refine e_Ok.add (z := 900 * p1 + z2) rfl rfl (by omega) ?_
                      refine e_Ok.ps1 (x := (1, 275)) (q := 312) 1 rfl ?_
                      refine e_Ok.getr (z := 335) rfl (el_o rfl) rfl (ef_o rfl) (e_uq hw135 (Or.inl (by decide)) (e_uq hw131 (Or.inl (by decide)) (e_uq hw127 (Or.inl (by decide)) (e_uq hw123 (Or.inl (by decide)) (e_Has.eq j87 rfl))))) ⟨by decide, by decide⟩ ?_
                      refine e_Ok.ps2 (x := (0, z2)) (y := (0, 3600)) (q := 319) 2 rfl ?_
                      refine e_Ok.add (z := z2 + 3600) rfl (Int.add_comm _ _) (by omega) ?_
                      have h138 := (e_Has.get j87 (c := 335) (k := z2 + 3600) (lo := (-2147483648)) (hi := 2147483647) rfl (by decide))
                      refine e_Ok.ald (z := v2 335 (z2 + 3600)) rfl (el_o rfl) rfl (by omega) (e_uq hw135 (Or.inl (by decide)) (e_uq hw131 (Or.inl (by decide)) (e_uq hw127 (Or.inl (by decide)) (e_uq hw123 (Or.inl (by decide)) rfl)))) (e_bq h138 (by decide) (by decide)) ?_
                      refine e_Ok.ast rfl (el_o rfl) rfl rfl (by omega) ?_
                      generalize hw139 : e_up w135 335 (900 * p1 + z2) (v2 335 (z2 + 3600)) = w139
                      have hH140 : e_Has hTy w139 := e_Has.ups hH136 hw139 rfl
                      have hT141 : e_Has mTy w139 := e_Has.upr hT137 hw139 (mt_o rfl) (by omega)
                      refine e_Ok.ps1 (x := (1, 275)) (q := 323) 1 rfl ?_
                      refine e_Ok.getr (z := 336) rfl (el_o rfl) rfl (ef_o rfl) (e_uq hw139 (Or.inl (by decide)) (e_uq hw135 (Or.inl (by decide)) (e_uq hw131 (Or.inl (by decide)) (e_uq hw127 (Or.inl (by decide)) (e_uq hw123 (Or.inl (by decide)) (e_Has.eq j87 rfl)))))) ⟨by decide, by decide⟩ ?_
                      refine e_Ok.ps2 (x := (0, p1)) (y := (0, 900)) (q := 330) 2 rfl ?_
                      refine e_Ok.mul (z := 900 * p1) rfl rfl (by omega) ?_
                      refine e_Ok.ps1 (x := (0, z2)) (q := 332) 1 rfl ?_
                      refine e_Ok.add (z := 900 * p1 + z2) rfl rfl (by omega) ?_
                      refine e_Ok.ps1 (x := (1, 275)) (q := 334) 1 rfl ?_
                      refine e_Ok.getr (z := 336) rfl (el_o rfl) rfl (ef_o rfl) (e_uq hw139 (Or.inl (by decide)) (e_uq hw135 (Or.inl (by decide)) (e_uq hw131 (Or.inl (by decide)) (e_uq hw127 (Or.inl (by decide)) (e_uq hw123 (Or.inl (by decide)) (e_Has.eq j87 rfl)))))) ⟨by decide, by decide⟩ ?_
                      refine e_Ok.ps2 (x := (0, z2)) (y := (0, 3600)) (q := 341) 2 rfl ?_
                      refine e_Ok.add (z := z2 + 3600) rfl (Int.add_comm _ _) (by omega) ?_
                      have h142 := (e_Has.get j87 (c := 336) (k := z2 + 3600) (lo := (-2147483648)) (hi := 2147483647) rfl (by decide))
                      refine e_Ok.ald (z := v2 336 (z2 + 3600)) rfl (el_o rfl) rfl (by omega) (e_uq hw139 (Or.inl (by decide)) (e_uq hw135 (Or.inl (by decide)) (e_uq hw131 (Or.inl (by decide)) (e_uq hw127 (Or.inl (by decide)) (e_uq hw123 (Or.inl (by decide)) rfl))))) (e_bq h142 (by decide) (by decide)) ?_
                      refine e_Ok.ast rfl (el_o rfl) rfl rfl (by omega) ?_
                      generalize hw143 : e_up w139 336 (900 * p1 + z2) (v2 336 (z2 + 3600)) = w143
                      have hH144 : e_Has hTy w143 := e_Has.ups hH140 hw143 rfl
                      have hT145 : e_Has mTy w143 := e_Has.upr hT141 hw143 (mt_o rfl) (by omega)
                      refine e_Ok.inc (z := z2 + 1) rfl rfl (by first | with_reducible rfl | omega) (by omega) ?_
                      show e_Ok 20 elay ecode eI (d + 1) 357 (347, [(2, (0, z2 + 1)), (0, (1, 275)), (1, (0, p1))], [], w143) _
                      refine e_Ok.ps0 (q := 205) 1 rfl ?_
                      refine e_Ok.sub eAlk (e_sub_of rfl ?_) (ih85 (z2 + 1) w143 ⟨(cp6.next j86 (by omega) (by omega) hw123 hw127 hw131 hw135 hw139 hw143), hT145, hH144, by omega⟩ (by omega))
                      exact ⟨rfl, rfl, rfl, trivial⟩
                refine e_Ok.sub eAlk (e_sub_of rfl ?_) (hL84 (901 + 1 : Int).toNat 0 v1 ⟨(cp6.zero _ _), j80, j81, by omega⟩ (by omega))
                exact ⟨rfl, rfl, rfl, trivial⟩
              · replace h83 : (y2 : Int) < w66 275 78 := Int.not_le.mp (show ¬ ((y2 : Int) ≥ w66 275 78) from h83)
                refine e_Ok.ps1 (x := (1, 275)) (q := 132) 1 rfl ?_
                refine e_Ok.getr (z := 328) rfl (el_o rfl) rfl (ef_o rfl) (e_Has.eq j80 rfl) ⟨by decide, by decide⟩ ?_
                refine e_Ok.ps2 (x := (0, p1)) (y := (0, 10000)) (q := 139) 2 rfl ?_
                refine e_Ok.mul (z := 10000 * p1) rfl rfl (by omega) ?_
                refine e_Ok.ps1 (x := (0, y2)) (q := 141) 1 rfl ?_
                refine e_Ok.add (z := 10000 * p1 + y2) rfl rfl (by omega) ?_
                refine e_Ok.ps1 (x := (1, 275)) (q := 143) 1 rfl ?_
                refine e_Ok.getr (z := 328) rfl (el_o rfl) rfl (ef_o rfl) (e_Has.eq j80 rfl) ⟨by decide, by decide⟩ ?_
                refine e_Ok.ps2 (x := (0, y2)) (y := (0, 40000)) (q := 150) 2 rfl ?_
                refine e_Ok.add (z := y2 + 40000) rfl (Int.add_comm _ _) (by omega) ?_
                have h146 := (e_Has.get j80 (c := 328) (k := y2 + 40000) (lo := (-2147483648)) (hi := 2147483647) rfl (by decide))
                refine e_Ok.ald (z := v1 328 (y2 + 40000)) rfl (el_o rfl) rfl (by omega) rfl (e_bq h146 (by decide) (by decide)) ?_
                refine e_Ok.ast rfl (el_o rfl) rfl rfl (by omega) ?_
                generalize hw147 : e_up v1 328 (10000 * p1 + y2) (v1 328 (y2 + 40000)) = w147
                have hH148 : e_Has hTy w147 := e_Has.ups j81 hw147 rfl
                have hT149 : e_Has mTy w147 := e_Has.upr j80 hw147 rfl (by omega)
                refine e_Ok.ps1 (x := (1, 275)) (q := 154) 1 rfl ?_
                refine e_Ok.getr (z := 329) rfl (el_o rfl) rfl (ef_o rfl) (e_uq hw147 (Or.inl (by decide)) (e_Has.eq j80 rfl)) ⟨by decide, by decide⟩ ?_
                refine e_Ok.ps2 (x := (0, p1)) (y := (0, 10000)) (q := 161) 2 rfl ?_
                refine e_Ok.mul (z := 10000 * p1) rfl rfl (by omega) ?_
                refine e_Ok.ps1 (x := (0, y2)) (q := 163) 1 rfl ?_
                refine e_Ok.add (z := 10000 * p1 + y2) rfl rfl (by omega) ?_
                refine e_Ok.ps1 (x := (1, 275)) (q := 165) 1 rfl ?_
                refine e_Ok.getr (z := 329) rfl (el_o rfl) rfl (ef_o rfl) (e_uq hw147 (Or.inl (by decide)) (e_Has.eq j80 rfl)) ⟨by decide, by decide⟩ ?_
                refine e_Ok.ps2 (x := (0, y2)) (y := (0, 40000)) (q := 172) 2 rfl ?_
                refine e_Ok.add (z := y2 + 40000) rfl (Int.add_comm _ _) (by omega) ?_
                have h150 := (e_Has.get j80 (c := 329) (k := y2 + 40000) (lo := (-2147483648)) (hi := 2147483647) rfl (by decide))
                refine e_Ok.ald (z := v1 329 (y2 + 40000)) rfl (el_o rfl) rfl (by omega) (e_uq hw147 (Or.inl (by decide)) rfl) (e_bq h150 (by decide) (by decide)) ?_
                refine e_Ok.ast rfl (el_o rfl) rfl rfl (by omega) ?_
                generalize hw151 : e_up w147 329 (10000 * p1 + y2) (v1 329 (y2 + 40000)) = w151
                have hH152 : e_Has hTy w151 := e_Has.ups hH148 hw151 rfl
                have hT153 : e_Has mTy w151 := e_Has.upr hT149 hw151 (mt_o rfl) (by omega)
                refine e_Ok.ps1 (x := (1, 275)) (q := 176) 1 rfl ?_
                refine e_Ok.getr (z := 330) rfl (el_o rfl) rfl (ef_o rfl) (e_uq hw151 (Or.inl (by decide)) (e_uq hw147 (Or.inl (by decide)) (e_Has.eq j80 rfl))) ⟨by decide, by decide⟩ ?_
                refine e_Ok.ps2 (x := (0, p1)) (y := (0, 10000)) (q := 183) 2 rfl ?_
                refine e_Ok.mul (z := 10000 * p1) rfl rfl (by omega) ?_
                refine e_Ok.ps1 (x := (0, y2)) (q := 185) 1 rfl ?_
                refine e_Ok.add (z := 10000 * p1 + y2) rfl rfl (by omega) ?_
                refine e_Ok.ps1 (x := (1, 275)) (q := 187) 1 rfl ?_
                refine e_Ok.getr (z := 330) rfl (el_o rfl) rfl (ef_o rfl) (e_uq hw151 (Or.inl (by decide)) (e_uq hw147 (Or.inl (by decide)) (e_Has.eq j80 rfl))) ⟨by decide, by decide⟩ ?_
                refine e_Ok.ps2 (x := (0, y2)) (y := (0, 40000)) (q := 194) 2 rfl ?_
                refine e_Ok.add (z := y2 + 40000) rfl (Int.add_comm _ _) (by omega) ?_
                have h154 := (e_Has.get j80 (c := 330) (k := y2 + 40000) (lo := (-2147483648)) (hi := 2147483647) rfl (by decide))
                refine e_Ok.ald (z := v1 330 (y2 + 40000)) rfl (el_o rfl) rfl (by omega) (e_uq hw151 (Or.inl (by decide)) (e_uq hw147 (Or.inl (by decide)) rfl)) (e_bq h154 (by decide) (by decide)) ?_
                refine e_Ok.ast rfl (el_o rfl) rfl rfl (by omega) ?_
                generalize hw155 : e_up w151 330 (10000 * p1 + y2) (v1 330 (y2 + 40000)) = w155
                have hH156 : e_Has hTy w155 := e_Has.ups hH152 hw155 rfl
                have hT157 : e_Has mTy w155 := e_Has.upr hT153 hw155 (mt_o rfl) (by omega)
                refine e_Ok.inc (z := y2 + 1) rfl rfl (by first | with_reducible rfl | omega) (by omega) ?_
                show e_Ok 20 elay ecode eI (d + 1) 357 (200, [(2, (0, y2 + 1)), (0, (1, 275)), (1, (0, p1))], [], w155) _
                refine e_Ok.ps0 (q := 123) 1 rfl ?_
                refine e_Ok.sub eAlk (e_sub_of rfl ?_) (ih78 (y2 + 1) w155 ⟨(cp3.next j79 (by omega) (by omega) hw147 hw151 hw155), hT157, hH156, by omega⟩ (by omega))
                exact ⟨rfl, rfl, rfl, trivial⟩
          refine e_Ok.sub eAlk (e_sub_of rfl ?_) (hL77 (9901 + 1 : Int).toNat 0 w71 ⟨(cp3.zero _ _), hT74, hH73, by omega⟩ (by omega))
          exact ⟨rfl, rfl, rfl, trivial⟩
        · replace h76 : (w69 275 88 : Int) ≠ 0 := (show ¬ ((w69 275 88 : Int) = 0) from h76)
          refine e_Ok.ps2 (x := (1, 275)) (y := (0, (-10))) (q := 116) 2 rfl ?_
          have h158 := (e_Has.get rH (c := 275) (k := 89) (lo := (-2147483648)) (hi := 2147483647) rfl (by decide))
          refine e_Ok.getf (z := w69 275 89) rfl (el_o rfl) rfl (ef_o rfl) (e_uq hw71 (Or.inr (by decide)) rfl) (e_bq h158 (by decide) (by decide)) ?_
          refine e_Ok.any rfl (eF_sub_any _ _) (fun z159 z159a z159b => ?_)
          refine e_Ok.rets rfl rfl ?_
          exact ⟨_, rfl, Or.inr ⟨by omega, by omega, e_fr.mono f72 (fun c k g => Or.inl g), hT74, hH73, (e_ue hw71), Or.inl (mPs.ps (by omega) f72)⟩⟩
      · replace h8 : (w 275 3 : Int) ≠ 0 := (show ¬ ((w 275 3 : Int) = 0) from h8)
        refine e_Ok.ps1 (x := (0, (-2))) (q := 19) 1 rfl ?_
        refine e_Ok.rets rfl rfl ?_
        exact ⟨_, rfl, Or.inl ⟨rfl, by omega⟩⟩
    · replace h7 : (1 : Int) = 0 := Classical.not_not.mp (show ¬ ((1 : Int) ≠ 0) from h7)
      exfalso; omega
  · refine e_Ok.nrm (q := 5) (st' := [(0, 0)]) rfl rfl ?_
    refine e_Ok.if1 rfl (fun h160 => ?_) (fun h160 => ?_)
    · replace h160 : (0 : Int) ≠ 0 := h160
      exfalso; omega
    · replace h160 : (0 : Int) = 0 := Classical.not_not.mp (show ¬ ((0 : Int) ≠ 0) from h160)
      refine e_Ok.ps1 (x := (0, (-1))) (q := 9) 1 rfl ?_
      refine e_Ok.rets rfl rfl ?_
      exact ⟨_, rfl, Or.inl ⟨rfl, by omega⟩⟩
end
end
-- part bo
section
noncomputable section
/-! a program that is read keeps what a cell that is built keeps -/
def bInvP (w : eW) (G : Int → Gh) : Prop := bInv w G ∧ ∀ a, 0 ≤ a → a ≤ 3 → ∀ r v, (G a).br r v → 0 ≤ v ∧ v < (G a).nw
theorem newOk.bInvP {w : eW} (hT : e_Has mTy w) (h : newOk w) : bInvP w G0 := ⟨newOk.bInv hT h, fun a _ _ r v g => False.elim g⟩
theorem no_bo_0 {a : Int} {k : Int} : ¬ mPg a 310 k := by unfold mPg mPs; omega
theorem no_bo_1 {a : Int} {k : Int} : ¬ mPg a 286 k := by unfold mPg mPs; omega
theorem bInv.gs {w w' : eW} {G G' : Int → Gh} {a : Int} (h : bInv w G) (ha : 0 ≤ a ∧ a ≤ 3) (hF : e_fr (mPg a) w w') (hT : e_Has mTy w') (hg : gAll w' G') : bInv w' G' := by
  obtain ⟨h1, h2, h3, h4, h5, h6, h7, h8⟩ := h
  have e10 : w' 275 10 = w 275 10 := hF _ _ (by unfold mPg mPs; omega)
  have e40 : w' 275 40 = w 275 40 := hF _ _ (by unfold mPg mPs; omega)
  have e42 : w' 275 42 = w 275 42 := hF _ _ (by unfold mPg mPs; omega)
  have hp := e_Has.get h1 (c := 275) (k := 40) (lo := 0) (hi := 32) rfl (by decide)
  refine ⟨hT, mAc.fr' (fun k q => by unfold mPg mPs at q; omega) hF h2, mCf.fr h3 (fun c k q => hF c k (by unfold mPg mPs; omega)), fun z g1 g2 => ?_, fun b g1 g2 => ?_, by rw [e40]; exact mOr.fr h6 hp.2 (e_Has.orn h1) (e_Has.orw h1 hp.2) (fun k q => hF 276 k (by unfold orK at q; unfold mPg mPs; omega)), hg, h8.fr (fun k q => hF 276 k (by unfold mPg mPs; omega))⟩
  · rw [hF 310 z (by first | exact no_bo_0 | (unfold mPg mPs; omega)), e10]
    exact h4 z g1 (by rw [e42] at g2; exact g2)
  · rw [hF 286 b (by first | exact no_bo_1 | (unfold mPg mPs; omega))]
    exact h5 b (by rw [e10] at g1; exact g1) g2
def gNew (n nt nw : Int) (dl sg pi en : Int → Int) (an br : Int → Int → Prop) : Gh := ((n, nt, nw), (dl, sg, pi, en), (an, br))
def gUp (G : Int → Gh) (a : Int) (g : Gh) (b : Int) : Gh := if b = a then g else G b
theorem gUp_eq (G : Int → Gh) (a : Int) (g : Gh) : gUp G a g a = g := if_pos rfl
theorem gUp_ne (G : Int → Gh) {a b : Int} (g : Gh) (h : b ≠ a) : gUp G a g b = G b := if_neg h
theorem bInvP.prog {w w' : eW} {G : Int → Gh} {a : Int} (h : bInvP w G) (ha : 0 ≤ a ∧ a ≤ 3) (hF : e_fr (mPg a) w w') (hT : e_Has mTy w') (hc : prS w w' a ∨ ∃ (n' nt' nw' : Int) (dl sg pi en : Int → Int) (an br : Int → Int → Prop), cOk w' a n' nt' nw' dl sg pi en an br ∧ ∀ r q, br r q → 0 ≤ q ∧ q < nw') : ∃ G', bInvP w' G' := by
  have hg : gAll w G := h.1.2.2.2.2.2.2.1
  have h32 : ∀ b, 0 ≤ b → b ≤ 3 → w 338 b ≤ 32 := fun b _ _ => (e_Has.get h.1.1 (c := 338) (k := b) (lo := 0) (hi := 32) rfl (by decide)).2
  have ho : ∀ b, 0 ≤ b → b ≤ 3 → prS w w' b → gC w' G b := fun b b1 b2 e => cOk.ps e (h32 b b1 b2) (h.2 b b1 b2) (hg b b1 b2)
  rcases hc with hc | ⟨n', nt', nw', dl, sg, pi, en, an, br, hk, hb⟩
  · refine ⟨G, h.1.gs ha hF hT (fun b b1 b2 => ?_), h.2⟩
    by_cases c : a = b
    · subst c
      exact ho a b1 b2 hc
    · exact ho b b1 b2 (mPg.ps ha ⟨b1, b2⟩ c hF)
  · refine ⟨gUp G a (gNew n' nt' nw' dl sg pi en an br), h.1.gs ha hF hT (fun b b1 b2 => ?_), fun b b1 b2 r v => ?_⟩
    · by_cases c : b = a
      · subst c
        unfold gC
        rw [gUp_eq]
        exact hk
      · have q := ho b b1 b2 (mPg.ps ha ⟨b1, b2⟩ (fun e => c e.symm) hF)
        unfold gC at q ⊢
        rw [gUp_ne G _ c]
        exact q
    · by_cases c : b = a
      · subst c
        rw [gUp_eq]
        exact hb r v
      · rw [gUp_ne G _ c]
        exact h.2 b b1 b2 r v
end
end
-- part bp
section
noncomputable section
/-! what the model keeps from call to call: building -/
theorem hTy_none {c k : Int} (h : 282 ≤ c ∧ c ≤ 353) : hTy c k = (1, 0) := by
  have q : ∀ i, i < 72 → x_nthP hArr (i + 5) = (1, 0) := by decide
  have e : c.toNat - 275 = ((c - 282).toNat + 5) + 2 := by omega
  unfold hTy
  rw [e]
  exact q _ (by omega)
def mRel (w : eW) : Prop := e_Has mTy w ∧ e_Has hTy w ∧ (w 275 6 = 0 ∧ (w 275 3 = 0 → w 275 5 = 0)) ∧ ((w 275 3 = 0 ∧ ∃ G, bInvP w G) ∨ (w 275 3 = 1 ∧ ∃ G S, bkI w G S))
/-- what the tape, the arms and 'open' have to do with: as they were -/
def sm3 (w w' : eW) : Prop := w' 275 3 = w 275 3 ∧ w' 275 9 = w 275 9 ∧ w' 275 10 = w 275 10
theorem hT_F {w w' : eW} {f a b : Int} (hF : e_fr (mF f a b) w w') (h : e_Has hTy w) (hf : f = -1 ∨ f = 10 ∨ f = 23 ∨ f = 30 ∨ f = 42 ∨ f = 49) (hab : 282 ≤ a ∧ b ≤ 340) : e_Has hTy w' := h.fr (fun c k q => by
  rcases q with ⟨rfl, rfl⟩ | q
  · rcases hf with rfl | rfl | rfl | rfl | rfl | rfl <;> rfl
  · exact hTy_none (by omega)) hF
theorem mRel.bld {w w' : eW} {f a b : Int} (h : mRel w) (ho : w 275 3 = 0) (hF : e_fr (mF f a b) w w') (hT : e_Has mTy w') (hf : f = -1 ∨ f = 10 ∨ f = 23 ∨ f = 30 ∨ f = 42 ∨ f = 49) (hab : 282 ≤ a ∧ b ≤ 340) (hI : ∀ G, bInv w G → bInv w' G) : mRel w' ∧ w' 275 3 = w 275 3 ∧ w' 275 9 = w 275 9 := by
  obtain ⟨h1, h2, h3, h4⟩ := h
  have e3 : w' 275 3 = w 275 3 := hF 275 3 (by unfold mF; omega)
  refine ⟨⟨hT, hT_F hF h2 hf hab, ⟨(hF 275 6 (by unfold mF; omega)).trans h3.1, fun _ => (hF 275 5 (by unfold mF; omega)).trans (h3.2 ho)⟩, ?_⟩, e3, hF 275 9 (by unfold mF; omega)⟩
  rcases h4 with ⟨-, G, g⟩ | ⟨g, -⟩
  · exact Or.inl ⟨e3.trans ho, G, hI G g.1, g.2⟩
  · omega
theorem mRel.alt {w w' : eW} {f a b : Int} {E : Prop} (h : mRel w) (q : w = w' ∨ (w 275 3 = 0 ∧ e_fr (mF f a b) w w' ∧ e_Has mTy w' ∧ E)) (hf : f = -1 ∨ f = 23 ∨ f = 30 ∨ f = 42 ∨ f = 49) (hab : 282 ≤ a ∧ b ≤ 340) (hI : ∀ G, E → e_Has mTy w' → e_fr (mF f a b) w w' → bInv w G → bInv w' G) : mRel w' ∧ sm3 w w' := by
  rcases q with rfl | ⟨q1, q2, q3, q4⟩
  · exact ⟨h, rfl, rfl, rfl⟩
  · obtain ⟨r1, r2, r3⟩ := h.bld q1 q2 q3 (by omega) hab (fun G g => hI G q4 q3 q2 g)
    exact ⟨r1, r2, r3, q2 275 10 (by unfold mF; omega)⟩
theorem m_280 {d : Nat} (hd : 24 ≤ d) {w : eW} (h : mRel w) {p1 p2 p3 : Int} (g1 : -2147483648 ≤ p1 ∧ p1 ≤ 2147483647) (g2 : -2147483648 ≤ p2 ∧ p2 ≤ 2147483647) (g3 : -2147483648 ≤ p3 ∧ p3 ≤ 2147483647) : e_Ok 20 elay ecode eI d 280 (0, [(0, (1, 275)), (1, (0, p1)), (2, (0, p2)), (3, (0, p3))], [], w) (fun r w' => ∃ z : Int, r = [(0, z)] ∧ mRel w' ∧ sm3 w w') :=
  (c_280_b hd h.1 g1 g2 g3).imp (fun r w' q => by
    obtain ⟨z, hr, q⟩ := q
    exact ⟨z, hr, h.alt q (by decide) (by decide) (fun G _ hT hF g => g.cfg hF hT (fun c k y => by unfold mF at y; unfold cfN; omega))⟩)
theorem m_281 {d : Nat} (hd : 24 ≤ d) {w : eW} (h : mRel w) {p1 p2 p3 p4 : Int} (g1 : -2147483648 ≤ p1 ∧ p1 ≤ 2147483647) (g2 : -2147483648 ≤ p2 ∧ p2 ≤ 2147483647) (g3 : -2147483648 ≤ p3 ∧ p3 ≤ 2147483647) (g4 : -2147483648 ≤ p4 ∧ p4 ≤ 2147483647) : e_Ok 20 elay ecode eI d 281 (0, [(0, (1, 275)), (1, (0, p1)), (2, (0, p2)), (3, (0, p3)), (4, (0, p4))], [], w) (fun r w' => ∃ z : Int, r = [(0, z)] ∧ mRel w' ∧ sm3 w w') :=
  (c_281_b hd h.1 g1 g2 g3 g4).imp (fun r w' q => by
    obtain ⟨z, hr, q⟩ := q
    exact ⟨z, hr, h.alt q (by decide) (by decide) (fun G e hT hF g => g.pace hF hT e)⟩)
theorem m_285 {d : Nat} (hd : 24 ≤ d) {w : eW} (h : mRel w) {p1 p2 p3 : Int} (g1 : -2147483648 ≤ p1 ∧ p1 ≤ 2147483647) (g2 : -2147483648 ≤ p2 ∧ p2 ≤ 2147483647) (g3 : -2147483648 ≤ p3 ∧ p3 ≤ 2147483647) : e_Ok 20 elay ecode eI d 285 (0, [(0, (1, 275)), (1, (0, p1)), (2, (0, p2)), (3, (0, p3))], [], w) (fun r w' => ∃ z : Int, r = [(0, z)] ∧ mRel w' ∧ sm3 w w') :=
  (c_285_b hd h.1 g1 g2 g3).imp (fun r w' q => by
    obtain ⟨z, hr, q⟩ := q
    exact ⟨z, hr, h.alt q (by decide) (by decide) (fun G _ hT hF g => g.cfg hF hT (fun c k y => by unfold mF at y; unfold cfN; omega))⟩)
theorem m_286 {d : Nat} (hd : 24 ≤ d) {w : eW} (h : mRel w) {p1 p2 p3 p4 p5 : Int} (g1 : -2147483648 ≤ p1 ∧ p1 ≤ 2147483647) (g2 : -2147483648 ≤ p2 ∧ p2 ≤ 2147483647) (g3 : -2147483648 ≤ p3 ∧ p3 ≤ 2147483647) (g4 : -2147483648 ≤ p4 ∧ p4 ≤ 2147483647) (g5 : -2147483648 ≤ p5 ∧ p5 ≤ 2147483647) : e_Ok 20 elay ecode eI d 286 (0, [(0, (1, 275)), (1, (0, p1)), (2, (0, p2)), (3, (0, p3)), (4, (0, p4)), (5, (0, p5))], [], w) (fun r w' => ∃ z : Int, r = [(0, z)] ∧ mRel w' ∧ sm3 w w') :=
  (c_286_b hd h.1 g1 g2 g3 g4 g5).imp (fun r w' q => by
    obtain ⟨z, hr, q⟩ := q
    exact ⟨z, hr, h.alt q (by decide) (by decide) (fun G _ hT hF g => g.cfg hF hT (fun c k y => by unfold mF at y; unfold cfN; omega))⟩)
theorem m_287 {d : Nat} (hd : 24 ≤ d) {w : eW} (h : mRel w) {p1 p2 : Int} (g1 : -2147483648 ≤ p1 ∧ p1 ≤ 2147483647) (g2 : -2147483648 ≤ p2 ∧ p2 ≤ 2147483647) : e_Ok 20 elay ecode eI d 287 (0, [(0, (1, 275)), (1, (0, p1)), (2, (0, p2))], [], w) (fun r w' => ∃ z : Int, r = [(0, z)] ∧ mRel w' ∧ sm3 w w') :=
  (c_287_b hd h.1 g1 g2).imp (fun r w' q => by
    obtain ⟨z, hr, q⟩ := q
    exact ⟨z, hr, h.alt q (by decide) (by decide) (fun G _ hT hF g => g.cfg hF hT (fun c k y => by unfold mF at y; unfold cfN; omega))⟩)
theorem m_288 {d : Nat} (hd : 24 ≤ d) {w : eW} (h : mRel w) {p1 p2 p3 p4 : Int} (g1 : -2147483648 ≤ p1 ∧ p1 ≤ 2147483647) (g2 : -2147483648 ≤ p2 ∧ p2 ≤ 2147483647) (g3 : -2147483648 ≤ p3 ∧ p3 ≤ 2147483647) (g4 : -2147483648 ≤ p4 ∧ p4 ≤ 2147483647) : e_Ok 20 elay ecode eI d 288 (0, [(0, (1, 275)), (1, (0, p1)), (2, (0, p2)), (3, (0, p3)), (4, (0, p4))], [], w) (fun r w' => ∃ z : Int, r = [(0, z)] ∧ mRel w' ∧ sm3 w w') :=
  (c_288_b hd h.1 g1 g2 g3 g4).imp (fun r w' q => by
    obtain ⟨z, hr, q⟩ := q
    exact ⟨z, hr, h.alt q (by decide) (by decide) (fun G _ hT hF g => g.cfg hF hT (fun c k y => by unfold mF at y; unfold cfN; omega))⟩)
theorem m_291 {d : Nat} (hd : 24 ≤ d) {w : eW} (h : mRel w) {p1 p2 p3 p4 p5 : Int} (g1 : -2147483648 ≤ p1 ∧ p1 ≤ 2147483647) (g2 : -2147483648 ≤ p2 ∧ p2 ≤ 2147483647) (g3 : -2147483648 ≤ p3 ∧ p3 ≤ 2147483647) (g4 : -2147483648 ≤ p4 ∧ p4 ≤ 2147483647) (g5 : -2147483648 ≤ p5 ∧ p5 ≤ 2147483647) : e_Ok 20 elay ecode eI d 291 (0, [(0, (1, 275)), (1, (0, p1)), (2, (0, p2)), (3, (0, p3)), (4, (0, p4)), (5, (0, p5))], [], w) (fun r w' => ∃ z : Int, r = [(0, z)] ∧ mRel w' ∧ sm3 w w') :=
  (c_291_b hd h.1 g1 g2 g3 g4 g5).imp (fun r w' q => by
    obtain ⟨z, hr, q⟩ := q
    exact ⟨z, hr, h.alt q (by decide) (by decide) (fun G e hT hF g => g.zone hF hT e)⟩)
theorem m_292 {d : Nat} (hd : 24 ≤ d) {w : eW} (h : mRel w) {p1 p2 : Int} (g1 : -2147483648 ≤ p1 ∧ p1 ≤ 2147483647) (g2 : -2147483648 ≤ p2 ∧ p2 ≤ 2147483647) : e_Ok 20 elay ecode eI d 292 (0, [(0, (1, 275)), (1, (0, p1)), (2, (0, p2))], [], w) (fun r w' => ∃ z : Int, r = [(0, z)] ∧ mRel w' ∧ sm3 w w') :=
  (c_292_b hd h.1 g1 g2).imp (fun r w' q => by
    obtain ⟨z, hr, q⟩ := q
    exact ⟨z, hr, h.alt q (by decide) (by decide) (fun G _ hT hF g => g.cfg hF hT (fun c k y => by unfold mF at y; unfold cfN; omega))⟩)
theorem m_293 {d : Nat} (hd : 24 ≤ d) {w : eW} (h : mRel w) {p1 : Int} (g1 : -2147483648 ≤ p1 ∧ p1 ≤ 2147483647) : e_Ok 20 elay ecode eI d 293 (0, [(0, (1, 275)), (1, (0, p1))], [], w) (fun r w' => ∃ z : Int, r = [(0, z)] ∧ mRel w' ∧ sm3 w w') :=
  (c_293_b hd h.1 g1).imp (fun r w' q => by
    obtain ⟨z, hr, q⟩ := q
    exact ⟨z, hr, h.alt q (by decide) (by decide) (fun G _ hT hF g => g.cfg hF hT (fun c k y => by unfold mF at y; unfold cfN; omega))⟩)
theorem m_294 {d : Nat} (hd : 24 ≤ d) {w : eW} (h : mRel w) {p1 p2 : Int} (g1 : -2147483648 ≤ p1 ∧ p1 ≤ 2147483647) (g2 : 0 ≤ p2 ∧ p2 ≤ 1) : e_Ok 20 elay ecode eI d 294 (0, [(0, (1, 275)), (1, (0, p1)), (2, (0, p2))], [], w) (fun r w' => ∃ z : Int, r = [(0, z)] ∧ mRel w' ∧ sm3 w w') :=
  (c_294_b hd h.1 g1 g2).imp (fun r w' q => by
    obtain ⟨z, hr, q⟩ := q
    exact ⟨z, hr, h.alt q (by decide) (by decide) (fun G _ hT hF g => g.cfg hF hT (fun c k y => by unfold mF at y; unfold cfN; omega))⟩)
theorem m_283 {d : Nat} (hd : 26 ≤ d) {w : eW} (h : mRel w) {p1 p2 p3 : Int} (g1 : -2147483648 ≤ p1 ∧ p1 ≤ 2147483647) (g2 : -2147483648 ≤ p2 ∧ p2 ≤ 2147483647) (g3 : -2147483648 ≤ p3 ∧ p3 ≤ 2147483647) : e_Ok 20 elay ecode eI d 283 (0, [(0, (1, 275)), (1, (0, p1)), (2, (0, p2)), (3, (0, p3))], [], w) (fun r w' => ∃ z : Int, r = [(0, z)] ∧ mRel w' ∧ sm3 w w') :=
  (c_283_b hd h.1 g1 g2 g3).imp (fun r w' q => by
    obtain ⟨z, hr, q⟩ := q
    exact ⟨z, hr, h.alt q (by decide) (by decide) (fun G _ hT hF g => g.cfg hF hT (fun c k y => by unfold mF at y; unfold cfN; omega))⟩)
theorem m_284 {d : Nat} (hd : 26 ≤ d) {w : eW} (h : mRel w) {p1 p2 p3 p4 : Int} (g1 : -2147483648 ≤ p1 ∧ p1 ≤ 2147483647) (g2 : -2147483648 ≤ p2 ∧ p2 ≤ 2147483647) (g3 : -2147483648 ≤ p3 ∧ p3 ≤ 2147483647) (g4 : -2147483648 ≤ p4 ∧ p4 ≤ 2147483647) : e_Ok 20 elay ecode eI d 284 (0, [(0, (1, 275)), (1, (0, p1)), (2, (0, p2)), (3, (0, p3)), (4, (0, p4))], [], w) (fun r w' => ∃ z : Int, r = [(0, z)] ∧ mRel w' ∧ sm3 w w') :=
  (c_284_b hd h.1 g1 g2 g3 g4).imp (fun r w' q => by
    obtain ⟨z, hr, q⟩ := q
    exact ⟨z, hr, h.alt q (by decide) (by decide) (fun G _ hT hF g => g.cfg hF hT (fun c k y => by unfold mF at y; unfold cfN; omega))⟩)
theorem m_278 {d : Nat} (hd : 24 ≤ d) {w : eW} (h : mRel w) {p1 p2 p3 p4 : Int} (g1 : -2147483648 ≤ p1 ∧ p1 ≤ 2147483647) (g2 : -2147483648 ≤ p2 ∧ p2 ≤ 2147483647) (g3 : -2147483648 ≤ p3 ∧ p3 ≤ 2147483647) (g4 : -2147483648 ≤ p4 ∧ p4 ≤ 2147483647) : e_Ok 20 elay ecode eI d 278 (0, [(0, (1, 275)), (1, (0, p1)), (2, (0, p2)), (3, (0, p3)), (4, (0, p4))], [], w) (fun r w' => ∃ z : Int, r = [(0, z)] ∧ mRel w' ∧ w' 275 3 = w 275 3 ∧ w' 275 9 = w 275 9 ∧ (w' 275 10 = w 275 10 ∨ (w 275 3 = 0 ∧ w' 275 10 = w 275 10 + 1))) :=
  (c_278_b hd h.1 g1 g2 g3 g4).imp (fun r w' q => by
    obtain ⟨z, hr, q⟩ := q
    rcases q with rfl | ⟨q1, q2, q3, q4⟩
    · exact ⟨z, hr, h, rfl, rfl, Or.inl rfl⟩
    · obtain ⟨r1, r2, r3⟩ := h.bld q1 q2 q3 (by decide) (by decide) (fun G g => g.arm q2 q3 q4)
      exact ⟨z, hr, r1, r2, r3, Or.inr ⟨q1, q4⟩⟩)
/-- program -/
theorem no_bp_0 {a : Int} : ¬ mPg a 275 3 := by unfold mPg mPs; omega
theorem no_bp_1 {a : Int} : ¬ mPg a 275 6 := by unfold mPg mPs; omega
theorem no_bp_2 {a : Int} : ¬ mPg a 275 5 := by unfold mPg mPs; omega
theorem no_bp_3 {a : Int} : ¬ mPg a 275 10 := by unfold mPg mPs; omega
theorem m_357 {d : Nat} (hd : 424 ≤ d) {w : eW} (h : mRel w) {p1 : Int} (g1 : -2147483648 ≤ p1 ∧ p1 ≤ 2147483647) : e_Ok 20 elay ecode eI d 357 (0, [(0, (1, 275)), (1, (0, p1))], [], w) (fun r w' => ∃ z : Int, r = [(0, z)] ∧ mRel w' ∧ w' 275 3 = w 275 3 ∧ w' 275 10 = w 275 10 ∧ ((w = w' ∧ ¬ (w 275 3 = 0 ∧ 0 ≤ p1 ∧ p1 < w 275 10)) ∨ (w 275 3 = 0 ∧ (0 ≤ p1 ∧ p1 < w 275 10) ∧ w' 275 9 = 0))) :=
  (c_357 hd h.1 h.2.1 g1).imp (fun r w' q => by
    obtain ⟨z, hr, q⟩ := q
    rcases q with ⟨rfl, q⟩ | ⟨q1, q2, q3, q4, q5, q6, q7⟩
    · exact ⟨z, hr, h, rfl, rfl, Or.inl ⟨rfl, q⟩⟩
    · have h10 := e_Has.get h.1 (c := 275) (k := 10) (lo := 0) (hi := 4) rfl (by decide)
      have e3 : w' 275 3 = w 275 3 := q3 275 3 (by first | exact no_bp_0 | (unfold mPg mPs; omega))
      have e6 : w' 275 6 = w 275 6 := q3 275 6 (by first | exact no_bp_1 | (unfold mPg mPs; omega))
      refine ⟨z, hr, ⟨q4, q5, ⟨e6.trans h.2.2.1.1, fun _ => (q3 275 5 (by first | exact no_bp_2 | (unfold mPg mPs; omega))).trans (h.2.2.1.2 q1)⟩, ?_⟩, e3, q3 275 10 (by first | exact no_bp_3 | (unfold mPg mPs; omega)), Or.inr ⟨q1, q2, q6⟩⟩
      rcases h.2.2.2 with ⟨-, G, g⟩ | ⟨g, -⟩
      · obtain ⟨G', g'⟩ := g.prog (by omega) q3 q4 q7
        exact Or.inl ⟨e3.trans q1, G', g'⟩
      · omega)
end
end
-- part bq
section
noncomputable section
def r9 (w v : eW) : Prop := v 275 6 = w 275 6 ∧ v 275 9 = w 275 9
theorem r9.up {w v v' : eW} {c k z : Int} (h : r9 w v) (hw : e_up v c k z = v') (hc : c ≠ 275) : r9 w v' := by
  have e : ∀ k', v' 275 k' = v 275 k' := fun k' => by rw [← hw]; exact e_up_ne _ _ (Or.inl (fun q => hc q.symm))
  unfold r9
  rw [e, e]
  exact h
theorem no_bq_0 {k : Int} : ¬ mRe 286 k := by unfold mRe; omega
theorem no_bq_1 {k : Int} : ¬ mRd 286 k := by unfold mRd; omega
theorem no_bq_2 {k : Int} : ¬ mRc 286 k := by unfold mRc; omega
theorem no_bq_3 {k : Int} : ¬ mRb 286 k := by unfold mRb; omega
theorem no_bq_4 {k : Int} : ¬ mRe 338 k := by unfold mRe; omega
theorem no_bq_5 {k : Int} : ¬ mRd 338 k := by unfold mRd; omega
theorem no_bq_6 {k : Int} : ¬ mRc 338 k := by unfold mRc; omega
theorem no_bq_7 {k : Int} : ¬ mRb 338 k := by unfold mRb; omega
theorem no_bq_8 {k : Int} : ¬ mRe 276 k := by unfold mRe; omega
theorem no_bq_9 {k : Int} : ¬ mRd 276 k := by unfold mRd; omega
theorem no_bq_10 {a : Int} (ha : 0 ≤ a ∧ a ≤ 3) : ¬ mRc 276 (36 * a + 17) := by unfold mRc; omega
theorem no_bq_11 {a : Int} (ha : 0 ≤ a ∧ a ≤ 3) : ¬ mRb 276 (36 * a + 17) := by unfold mRb; omega
theorem no_bq_12 {k : Int} : ¬ mRe 318 k := by unfold mRe; omega
set_option maxHeartbeats 4000000 in
theorem c_267_h {d : Nat} (hd : 21 ≤ d) {w : eW} (hT : e_Has mTy w) (hH : e_Has hTy w) : e_Ok 20 elay ecode eI d 267 (0, [(0, (1, 275))], [], w) (fun r w' => r = [] ∧ e_Has hTy w' ∧ r9 w w' ∧ e_Has mTy w' ∧ newOk w') := by
  obtain ⟨d, rfl⟩ : ∃ e, d = e + 1 := ⟨d - 1, by omega⟩
  refine e_Ok.ps2 (x := (0, 0)) (y := (1, 275)) (q := 2) 2 rfl ?_
  refine e_Ok.putb rfl (el_o rfl) rfl (ef_o rfl) (by omega) ?_
  generalize hw1 : e_up w 275 3 0 = w1
  have hH2 : e_Has hTy w1 := e_Has.ups hH hw1 rfl
  have hT3 : e_Has mTy w1 := e_Has.upr hT hw1 (mt_o rfl) (by omega)
  refine e_Ok.ps2 (x := (0, 0)) (y := (1, 275)) (q := 7) 2 rfl ?_
  refine e_Ok.putf rfl (el_o rfl) rfl (ef_o rfl) ?_
  generalize hw4 : e_up w1 275 10 0 = w4
  have hH5 : e_Has hTy w4 := e_Has.ups hH2 hw4 rfl
  have hT6 : e_Has mTy w4 := e_Has.upr hT3 hw4 (mt_o rfl) (by omega)
  refine e_Ok.ps2 (x := (0, 0)) (y := (1, 275)) (q := 12) 2 rfl ?_
  refine e_Ok.putf rfl (el_o rfl) rfl (ef_o rfl) ?_
  generalize hw7 : e_up w4 275 23 0 = w7
  have hH8 : e_Has hTy w7 := e_Has.ups hH5 hw7 rfl
  have hT9 : e_Has mTy w7 := e_Has.upr hT6 hw7 (mt_o rfl) (by omega)
  refine e_Ok.ps2 (x := (0, 0)) (y := (1, 275)) (q := 17) 2 rfl ?_
  refine e_Ok.putf rfl (el_o rfl) rfl (ef_o rfl) ?_
  generalize hw10 : e_up w7 275 30 0 = w10
  have hH11 : e_Has hTy w10 := e_Has.ups hH8 hw10 rfl
  have hT12 : e_Has mTy w10 := e_Has.upr hT9 hw10 (mt_o rfl) (by omega)
  refine e_Ok.ps2 (x := (0, 0)) (y := (1, 275)) (q := 22) 2 rfl ?_
  refine e_Ok.putf rfl (el_o rfl) rfl (ef_o rfl) ?_
  generalize hw13 : e_up w10 275 40 0 = w13
  have hH14 : e_Has hTy w13 := e_Has.ups hH11 hw13 rfl
  have hT15 : e_Has mTy w13 := e_Has.upr hT12 hw13 (mt_o rfl) (by omega)
  refine e_Ok.ps2 (x := (0, 0)) (y := (1, 275)) (q := 27) 2 rfl ?_
  refine e_Ok.putf rfl (el_o rfl) rfl (ef_o rfl) ?_
  generalize hw16 : e_up w13 275 42 0 = w16
  have hH17 : e_Has hTy w16 := e_Has.ups hH14 hw16 rfl
  have hT18 : e_Has mTy w16 := e_Has.upr hT15 hw16 (mt_o rfl) (by omega)
  refine e_Ok.ps2 (x := (0, 0)) (y := (1, 275)) (q := 32) 2 rfl ?_
  refine e_Ok.putf rfl (el_o rfl) rfl (ef_o rfl) ?_
  generalize hw19 : e_up w16 275 49 0 = w19
  have hH20 : e_Has hTy w19 := e_Has.ups hH17 hw19 rfl
  have hT21 : e_Has mTy w19 := e_Has.upr hT18 hw19 (mt_o rfl) (by omega)
  refine e_Ok.ps2 (x := (0, 0)) (y := (1, 275)) (q := 37) 2 rfl ?_
  refine e_Ok.putf rfl (el_o rfl) rfl (ef_o rfl) ?_
  generalize hw22 : e_up w19 275 5 0 = w22
  have hH23 : e_Has hTy w22 := e_Has.upr hH20 hw22 rfl (by omega)
  have hT24 : e_Has mTy w22 := e_Has.ups hT21 hw22 (mt_o rfl)
  refine e_Ok.ps2 (x := (0, 0)) (y := (1, 275)) (q := 42) 2 rfl ?_
  refine e_Ok.putf rfl (el_o rfl) rfl (ef_o rfl) ?_
  generalize hw25 : e_up w22 275 118 0 = w25
  have hH26 : e_Has hTy w25 := e_Has.upr hH23 hw25 rfl (by omega)
  have hT27 : e_Has mTy w25 := e_Has.ups hT24 hw25 (mt_o rfl)
  refine e_Ok.run (t' := (47, [(1, (0, 0)), (0, (1, 275))], [], w25)) 2 rfl ?_
  have hL28 : ∀ (nn : Nat) (y1 : Int) (v1 : eW), e_Has mTy v1 ∧ rF v1 ∧ (0 ≤ y1 ∧ y1 ≤ 33060) ∧ (∀ k, 0 ≤ k → k < y1 → v1 276 k = 0) ∧ e_Has hTy v1 ∧ r9 w v1 → 33061 - y1 < nn → e_Ok 20 elay ecode eI (d + 1) 267 (47, [(0, (1, 275)), (1, (0, y1))], [], v1) (fun r w' => r = [] ∧ e_Has hTy w' ∧ r9 w w' ∧ e_Has mTy w' ∧ newOk w') := by
    intro nn
    induction nn with
    | zero => intro y1 v1 hj hm; obtain ⟨j30, j31, j32, j33, j34, j35⟩ := hj; exfalso; omega
    | succ nn ih29 =>
      intro y1 v1 hj hm
      obtain ⟨j30, j31, j32, j33, j34, j35⟩ := hj
      refine e_Ok.run (t' := (50, [(0, (1, 275)), (1, (0, y1))], [(0, 33060), (0, y1)], v1)) 2 rfl ?_
      refine e_Ok.if2 rfl (fun h36 => ?_) (fun h36 => ?_)
      · replace h36 : (y1 : Int) ≥ 33060 := h36
        refine e_Ok.run (t' := (68, [(1, (0, 0)), (0, (1, 275))], [], v1)) 2 rfl ?_
        have hL37 : ∀ (nn : Nat) (y2 : Int) (v2 : eW), e_Has mTy v2 ∧ rF v2 ∧ (0 ≤ y2 ∧ y2 ≤ 4) ∧ e_fr mRa v1 v2 ∧ (∀ a, 0 ≤ a → a < y2 → v2 286 a = 0 ∧ v2 338 a = 0 ∧ v2 276 (36 * a + 17) = -1) ∧ e_Has hTy v2 ∧ r9 w v2 → 5 - y2 < nn → e_Ok 20 elay ecode eI (d + 1) 267 (68, [(0, (1, 275)), (1, (0, y2))], [], v2) (fun r w' => r = [] ∧ e_Has hTy w' ∧ r9 w w' ∧ e_Has mTy w' ∧ newOk w') := by
          intro nn
          induction nn with
          | zero => intro y2 v2 hj hm; obtain ⟨j40, j41, j42, j43, j44, j45, j46⟩ := hj; exfalso; omega
          | succ nn ih38 =>
            intro y2 v2 hj hm
            obtain ⟨j40, j41, j42, j43, j44, j45, j46⟩ := hj
            refine e_Ok.run (t' := (70, [(0, (1, 275)), (1, (0, y2))], [(0, 4), (0, y2)], v2)) 2 rfl ?_
            refine e_Ok.if2 rfl (fun h47 => ?_) (fun h47 => ?_)
            · replace h47 : (y2 : Int) ≥ 4 := h47
              refine e_Ok.run (t' := (172, [(1, (0, 0)), (0, (1, 275))], [], v2)) 2 rfl ?_
              have hL48 : ∀ (nn : Nat) (y3 : Int) (v3 : eW), e_Has mTy v3 ∧ rF v3 ∧ (0 ≤ y3 ∧ y3 ≤ 16) ∧ e_fr mRb v2 v3 ∧ e_Has hTy v3 ∧ r9 w v3 → 17 - y3 < nn → e_Ok 20 elay ecode eI (d + 1) 267 (172, [(0, (1, 275)), (1, (0, y3))], [], v3) (fun r w' => r = [] ∧ e_Has hTy w' ∧ r9 w w' ∧ e_Has mTy w' ∧ newOk w') := by
                intro nn
                induction nn with
                | zero => intro y3 v3 hj hm; obtain ⟨j50, j51, j52, j53, j54, j55⟩ := hj; exfalso; omega
                | succ nn ih49 =>
                  intro y3 v3 hj hm
                  obtain ⟨j50, j51, j52, j53, j54, j55⟩ := hj
                  refine e_Ok.run (t' := (175, [(0, (1, 275)), (1, (0, y3))], [(0, 16), (0, y3)], v3)) 2 rfl ?_
                  refine e_Ok.if2 rfl (fun h56 => ?_) (fun h56 => ?_)
                  · replace h56 : (y3 : Int) ≥ 16 := h56
                    refine e_Ok.run (t' := (198, [(1, (0, 0)), (0, (1, 275))], [], v3)) 2 rfl ?_
                    have hL57 : ∀ (nn : Nat) (y4 : Int) (v4 : eW), e_Has mTy v4 ∧ rF v4 ∧ (0 ≤ y4 ∧ y4 ≤ 8) ∧ e_fr mRc v3 v4 ∧ e_Has hTy v4 ∧ r9 w v4 → 9 - y4 < nn → e_Ok 20 elay ecode eI (d + 1) 267 (198, [(0, (1, 275)), (1, (0, y4))], [], v4) (fun r w' => r = [] ∧ e_Has hTy w' ∧ r9 w w' ∧ e_Has mTy w' ∧ newOk w') := by
                      intro nn
                      induction nn with
                      | zero => intro y4 v4 hj hm; obtain ⟨j59, j60, j61, j62, j63, j64⟩ := hj; exfalso; omega
                      | succ nn ih58 =>
                        intro y4 v4 hj hm
                        obtain ⟨j59, j60, j61, j62, j63, j64⟩ := hj
                        refine e_Ok.run (t' := (201, [(0, (1, 275)), (1, (0, y4))], [(0, 8), (0, y4)], v4)) 2 rfl ?_
                        refine e_Ok.if2 rfl (fun h65 => ?_) (fun h65 => ?_)
                        · replace h65 : (y4 : Int) ≥ 8 := h65
                          refine e_Ok.run (t' := (258, [(1, (0, 0)), (0, (1, 275))], [], v4)) 2 rfl ?_
                          have hL66 : ∀ (nn : Nat) (y5 : Int) (v5 : eW), e_Has mTy v5 ∧ rF v5 ∧ (0 ≤ y5 ∧ y5 ≤ 64) ∧ e_fr mRd v4 v5 ∧ (∀ p, 0 ≤ p → p < y5 → v5 318 p = -1) ∧ e_Has hTy v5 ∧ r9 w v5 → 65 - y5 < nn → e_Ok 20 elay ecode eI (d + 1) 267 (258, [(0, (1, 275)), (1, (0, y5))], [], v5) (fun r w' => r = [] ∧ e_Has hTy w' ∧ r9 w w' ∧ e_Has mTy w' ∧ newOk w') := by
                            intro nn
                            induction nn with
                            | zero => intro y5 v5 hj hm; obtain ⟨j68, j69, j70, j71, j72, j73, j74⟩ := hj; exfalso; omega
                            | succ nn ih67 =>
                              intro y5 v5 hj hm
                              obtain ⟨j68, j69, j70, j71, j72, j73, j74⟩ := hj
                              refine e_Ok.run (t' := (261, [(0, (1, 275)), (1, (0, y5))], [(0, 64), (0, y5)], v5)) 2 rfl ?_
                              refine e_Ok.if2 rfl (fun h75 => ?_) (fun h75 => ?_)
                              · replace h75 : (y5 : Int) ≥ 64 := h75
                                refine e_Ok.run (t' := (279, [(1, (0, 0)), (0, (1, 275))], [], v5)) 2 rfl ?_
                                have hL76 : ∀ (nn : Nat) (y6 : Int) (v6 : eW), e_Has mTy v6 ∧ rF v6 ∧ (0 ≤ y6 ∧ y6 ≤ 448) ∧ e_fr mRe v5 v6 ∧ e_Has hTy v6 ∧ r9 w v6 → 449 - y6 < nn → e_Ok 20 elay ecode eI (d + 1) 267 (279, [(0, (1, 275)), (1, (0, y6))], [], v6) (fun r w' => r = [] ∧ e_Has hTy w' ∧ r9 w w' ∧ e_Has mTy w' ∧ newOk w') := by
                                  intro nn
                                  induction nn with
                                  | zero => intro y6 v6 hj hm; obtain ⟨j78, j79, j80, j81, j82, j83⟩ := hj; exfalso; omega
                                  | succ nn ih77 =>
                                    intro y6 v6 hj hm
                                    obtain ⟨j78, j79, j80, j81, j82, j83⟩ := hj
                                    refine e_Ok.run (t' := (283, [(0, (1, 275)), (1, (0, y6))], [(0, 448), (0, y6)], v6)) 2 rfl ?_
                                    refine e_Ok.if2 rfl (fun h84 => ?_) (fun h84 => ?_)
                                    · replace h84 : (y6 : Int) ≥ 448 := h84
                                      refine e_Ok.rets rfl rfl ?_
                                      exact ⟨rfl, j82, j83, j78, j79, fun a g1 g2 => ⟨(j81 286 a no_bq_0).trans ((j71 286 a no_bq_1).trans ((j62 286 a no_bq_2).trans ((j53 286 a no_bq_3).trans ((j44 a g1 (by omega)).1)))), (j81 338 a no_bq_4).trans ((j71 338 a no_bq_5).trans ((j62 338 a no_bq_6).trans ((j53 338 a no_bq_7).trans ((j44 a g1 (by omega)).2.1)))), (j81 276 (36 * a + 17) no_bq_8).trans ((j71 276 (36 * a + 17) no_bq_9).trans ((j62 276 (36 * a + 17) (by first | exact no_bq_10 (by omega) | (unfold mRc; omega))).trans ((j53 276 (36 * a + 17) (by first | exact no_bq_11 (by omega) | (unfold mRb; omega))).trans ((j44 a g1 (by omega)).2.2))))⟩, fun p g1 g2 => (j81 318 p no_bq_12).trans (j72 p g1 (by omega)), fun k g1 g2 q1 q2 q3 => (j81 276 k no_bq_8).trans ((j71 276 k no_bq_9).trans ((j62 276 k q3).trans ((j53 276 k q2).trans ((j43 276 k q1).trans (j33 k g1 (by omega))))))⟩
                                    · replace h84 : (y6 : Int) < 448 := Int.not_le.mp (show ¬ ((y6 : Int) ≥ 448) from h84)
                                      refine e_Ok.ps1 (x := (1, 275)) (q := 287) 1 rfl ?_
                                      refine e_Ok.getr (z := 299) rfl (el_o rfl) rfl (ef_o rfl) (e_Has.eq j78 rfl) ⟨by decide, by decide⟩ ?_
                                      refine e_Ok.ps2 (x := (0, 0)) (y := (0, y6)) (q := 292) 2 rfl ?_
                                      refine e_Ok.ast rfl (el_o rfl) rfl (e_nar_b (by omega)) (by omega) ?_
                                      generalize hw85 : e_up v6 299 y6 0 = w85
                                      have hH86 : e_Has hTy w85 := e_Has.ups j82 hw85 rfl
                                      have hT87 : e_Has mTy w85 := e_Has.upr j78 hw85 rfl (by omega)
                                      refine e_Ok.inc (z := y6 + 1) rfl rfl (by first | with_reducible rfl | omega) (by omega) ?_
                                      show e_Ok 20 elay ecode eI (d + 1) 267 (296, [(1, (0, y6 + 1)), (0, (1, 275))], [], w85) _
                                      refine e_Ok.ps0 (q := 279) 1 rfl ?_
                                      refine e_Ok.sub eAlk (e_sub_of rfl ?_) (ih77 (y6 + 1) w85 ⟨hT87, (rF.up j79 hw85 (by decide)), by omega, (e_fr.up j81 hw85 (by unfold mRe; omega)), hH86, (r9.up j83 hw85 (by decide))⟩ (by omega))
                                      exact ⟨rfl, rfl, trivial⟩
                                refine e_Ok.sub eAlk (e_sub_of rfl ?_) (hL76 (449 + 1 : Int).toNat 0 v5 ⟨j68, j69, by omega, (e_fr.refl v5), j73, j74⟩ (by omega))
                                exact ⟨rfl, rfl, trivial⟩
                              · replace h75 : (y5 : Int) < 64 := Int.not_le.mp (show ¬ ((y5 : Int) ≥ 64) from h75)
                                refine e_Ok.ps1 (x := (1, 275)) (q := 265) 1 rfl ?_
                                refine e_Ok.getr (z := 318) rfl (el_o rfl) rfl (ef_o rfl) (e_Has.eq j68 rfl) ⟨by decide, by decide⟩ ?_
                                refine e_Ok.ps2 (x := (0, (-1))) (y := (0, y5)) (q := 270) 2 rfl ?_
                                refine e_Ok.ast rfl (el_o rfl) rfl rfl (by omega) ?_
                                generalize hw88 : e_up v5 318 y5 (-1) = w88
                                have hH89 : e_Has hTy w88 := e_Has.ups j73 hw88 rfl
                                have hT90 : e_Has mTy w88 := e_Has.upr j68 hw88 rfl (by omega)
                                refine e_Ok.inc (z := y5 + 1) rfl rfl (by first | with_reducible rfl | omega) (by omega) ?_
                                show e_Ok 20 elay ecode eI (d + 1) 267 (274, [(1, (0, y5 + 1)), (0, (1, 275))], [], w88) _
                                refine e_Ok.ps0 (q := 258) 1 rfl ?_
                                refine e_Ok.sub eAlk (e_sub_of rfl ?_) (ih67 (y5 + 1) w88 ⟨hT90, (rF.up j69 hw88 (by decide)), by omega, (e_fr.up j71 hw88 (by unfold mRd; omega)), (fun p g1 g2 => Decidable.byCases (p := p = y5) (fun e => by rw [e, ← hw88]; exact e_up_eq _ _ _ _) (fun e => Eq.trans (show w88 318 p = v5 318 p from by rw [← hw88]; exact e_up_ne _ _ (Or.inr e)) (j72 p g1 (by omega)))), hH89, (r9.up j74 hw88 (by decide))⟩ (by omega))
                                exact ⟨rfl, rfl, trivial⟩
                          refine e_Ok.sub eAlk (e_sub_of rfl ?_) (hL66 (65 + 1 : Int).toNat 0 v4 ⟨j59, j60, by omega, (e_fr.refl v4), (fun p g1 g2 => by omega), j63, j64⟩ (by omega))
                          exact ⟨rfl, rfl, trivial⟩
                        · replace h65 : (y4 : Int) < 8 := Int.not_le.mp (show ¬ ((y4 : Int) ≥ 8) from h65)
                          refine e_Ok.ps1 (x := (1, 275)) (q := 205) 1 rfl ?_
                          refine e_Ok.getr (z := 276) rfl (el_o rfl) rfl (ef_o rfl) (e_Has.eq j59 rfl) ⟨by decide, by decide⟩ ?_
                          refine e_Ok.ps2 (x := (0, y4)) (y := (0, 20868)) (q := 212) 2 rfl ?_
                          refine e_Ok.add (z := y4 + 20868) rfl (Int.add_comm _ _) (by omega) ?_
                          refine e_Ok.ps1 (x := (0, (-1))) (q := 214) 1 rfl ?_
                          refine e_Ok.ast rfl (el_o rfl) rfl rfl (by omega) ?_
                          generalize hw91 : e_up v4 276 (y4 + 20868) (-1) = w91
                          have hH92 : e_Has hTy w91 := e_Has.ups j63 hw91 rfl
                          have hT93 : e_Has mTy w91 := e_Has.upr j59 hw91 (nR_LOCK (l := y4) (by omega)) (by omega)
                          refine e_Ok.ps1 (x := (1, 275)) (q := 216) 1 rfl ?_
                          refine e_Ok.getr (z := 276) rfl (el_o rfl) rfl (ef_o rfl) (e_uq hw91 (Or.inl (by decide)) (e_Has.eq j59 rfl)) ⟨by decide, by decide⟩ ?_
                          refine e_Ok.ps3 (x := (0, y4)) (y := (0, 4)) (z := (0, 20836)) (q := 224) 3 rfl ?_
                          refine e_Ok.mul (z := 4 * y4) rfl rfl (by omega) ?_
                          refine e_Ok.add (z := 4 * y4 + 20836) rfl (Int.add_comm _ _) (by omega) ?_
                          refine e_Ok.ps1 (x := (0, 1)) (q := 227) 1 rfl ?_
                          refine e_Ok.ast rfl (el_o rfl) rfl rfl (by omega) ?_
                          generalize hw94 : e_up w91 276 (4 * y4 + 20836) 1 = w94
                          have hH95 : e_Has hTy w94 := e_Has.ups hH92 hw94 rfl
                          have hT101 : e_Has mTy w94 := e_Has.upr hT93 hw94 (nR_INPUT (i := y4) (f := 0) (by omega) (by decide)) (by omega)
                          refine e_Ok.ps1 (x := (1, 275)) (q := 229) 1 rfl ?_
                          refine e_Ok.getr (z := 276) rfl (el_o rfl) rfl (ef_o rfl) (e_uq hw94 (Or.inl (by decide)) (e_uq hw91 (Or.inl (by decide)) (e_Has.eq j59 rfl))) ⟨by decide, by decide⟩ ?_
                          refine e_Ok.ps3 (x := (0, y4)) (y := (0, 4)) (z := (0, 20836)) (q := 237) 3 rfl ?_
                          refine e_Ok.mul (z := 4 * y4) rfl rfl (by omega) ?_
                          refine e_Ok.add (z := 4 * y4 + 20836) rfl (Int.add_comm _ _) (by omega) ?_
                          refine e_Ok.ps1 (x := (0, 1)) (q := 240) 1 rfl ?_
                          refine e_Ok.add (z := 4 * y4 + 20837) rfl (e_adl (by decide)) (by omega) ?_
                          refine e_Ok.ps1 (x := (0, 1)) (q := 242) 1 rfl ?_
                          refine e_Ok.ast rfl (el_o rfl) rfl rfl (by omega) ?_
                          generalize hw103 : e_up w94 276 (4 * y4 + 20837) 1 = w103
                          have hH104 : e_Has hTy w103 := e_Has.ups hH95 hw103 rfl
                          have hT105 : e_Has mTy w103 := e_Has.upr hT101 hw103 (nR_INPUT (i := y4) (f := 1) (by omega) (by decide)) (by omega)
                          refine e_Ok.ps1 (x := (1, 275)) (q := 244) 1 rfl ?_
                          refine e_Ok.getr (z := 317) rfl (el_o rfl) rfl (ef_o rfl) (e_uq hw103 (Or.inl (by decide)) (e_uq hw94 (Or.inl (by decide)) (e_uq hw91 (Or.inl (by decide)) (e_Has.eq j59 rfl)))) ⟨by decide, by decide⟩ ?_
                          refine e_Ok.ps2 (x := (0, 0)) (y := (0, y4)) (q := 249) 2 rfl ?_
                          refine e_Ok.ast rfl (el_o rfl) rfl (e_nar_b (by omega)) (by omega) ?_
                          generalize hw106 : e_up w103 317 y4 0 = w106
                          have hH107 : e_Has hTy w106 := e_Has.ups hH104 hw106 rfl
                          have hT108 : e_Has mTy w106 := e_Has.upr hT105 hw106 (mt_o rfl) (by omega)
                          refine e_Ok.inc (z := y4 + 1) rfl rfl (by first | with_reducible rfl | omega) (by omega) ?_
                          show e_Ok 20 elay ecode eI (d + 1) 267 (253, [(1, (0, y4 + 1)), (0, (1, 275))], [], w106) _
                          refine e_Ok.ps0 (q := 198) 1 rfl ?_
                          refine e_Ok.sub eAlk (e_sub_of rfl ?_) (ih58 (y4 + 1) w106 ⟨hT108, (rF.up (rF.up (rF.up (rF.up j60 hw91 (by decide)) hw94 (by decide)) hw103 (by decide)) hw106 (by decide)), by omega, (e_fr.up (e_fr.up (e_fr.up (e_fr.up j62 hw91 (by unfold mRc; omega)) hw94 (by unfold mRc; omega)) hw103 (by unfold mRc; omega)) hw106 (by unfold mRc; omega)), hH107, (r9.up (r9.up (r9.up (r9.up j64 hw91 (by decide)) hw94 (by decide)) hw103 (by decide)) hw106 (by decide))⟩ (by omega))
                          exact ⟨rfl, rfl, trivial⟩
                    refine e_Ok.sub eAlk (e_sub_of rfl ?_) (hL57 (9 + 1 : Int).toNat 0 v3 ⟨j50, j51, by omega, (e_fr.refl v3), j54, j55⟩ (by omega))
                    exact ⟨rfl, rfl, trivial⟩
                  · replace h56 : (y3 : Int) < 16 := Int.not_le.mp (show ¬ ((y3 : Int) ≥ 16) from h56)
                    refine e_Ok.ps1 (x := (1, 275)) (q := 179) 1 rfl ?_
                    refine e_Ok.getr (z := 276) rfl (el_o rfl) rfl (ef_o rfl) (e_Has.eq j50 rfl) ⟨by decide, by decide⟩ ?_
                    refine e_Ok.ps1 (x := (0, y3)) (q := 183) 1 rfl ?_
                    refine e_Ok.callS rfl (e_dq hd rfl) rfl rfl (c_269 (by omega)) (fun r109 w110 h111 => ?_)
                    obtain ⟨rfl, rfl⟩ := h111
                    refine e_Ok.nrm (q := 186) (st' := [(0, 1260 * y3 + 416), (1, 276)]) rfl rfl ?_
                    refine e_Ok.ps1 (x := (0, 1)) (q := 187) 1 rfl ?_
                    refine e_Ok.add (z := 1260 * y3 + 417) rfl (e_adl (by decide)) (by omega) ?_
                    refine e_Ok.ps1 (x := (0, (-1))) (q := 189) 1 rfl ?_
                    refine e_Ok.ast rfl (el_o rfl) rfl rfl (by omega) ?_
                    generalize hw112 : e_up v3 276 (1260 * y3 + 417) (-1) = w112
                    have hH113 : e_Has hTy w112 := e_Has.ups j54 hw112 rfl
                    have hT114 : e_Has mTy w112 := e_Has.upr j50 hw112 (nR_TASK_ARM (t := y3) (by omega)) (by omega)
                    refine e_Ok.inc (z := y3 + 1) rfl rfl (by first | with_reducible rfl | omega) (by omega) ?_
                    show e_Ok 20 elay ecode eI (d + 1) 267 (193, [(1, (0, y3 + 1)), (0, (1, 275))], [], w112) _
                    refine e_Ok.ps0 (q := 172) 1 rfl ?_
                    refine e_Ok.sub eAlk (e_sub_of rfl ?_) (ih49 (y3 + 1) w112 ⟨hT114, (rF.up j51 hw112 (by decide)), by omega, (e_fr.up j53 hw112 (by unfold mRb; omega)), hH113, (r9.up j55 hw112 (by decide))⟩ (by omega))
                    exact ⟨rfl, rfl, trivial⟩
              refine e_Ok.sub eAlk (e_sub_of rfl ?_) (hL48 (17 + 1 : Int).toNat 0 v2 ⟨j40, j41, by omega, (e_fr.refl v2), j45, j46⟩ (by omega))
              exact ⟨rfl, rfl, trivial⟩
            · replace h47 : (y2 : Int) < 4 := Int.not_le.mp (show ¬ ((y2 : Int) ≥ 4) from h47)
              refine e_Ok.ps1 (x := (1, 275)) (q := 74) 1 rfl ?_
              refine e_Ok.getr (z := 286) rfl (el_o rfl) rfl (ef_o rfl) (e_Has.eq j40 rfl) ⟨by decide, by decide⟩ ?_
              refine e_Ok.ps2 (x := (0, 0)) (y := (0, y2)) (q := 79) 2 rfl ?_
              refine e_Ok.ast rfl (el_o rfl) rfl rfl (by omega) ?_
              generalize hw115 : e_up v2 286 y2 0 = w115
              have hH116 : e_Has hTy w115 := e_Has.ups j45 hw115 rfl
              have hT117 : e_Has mTy w115 := e_Has.upr j40 hw115 rfl (by omega)
              refine e_Ok.ps1 (x := (1, 275)) (q := 81) 1 rfl ?_
              refine e_Ok.getr (z := 276) rfl (el_o rfl) rfl (ef_o rfl) (e_uq hw115 (Or.inl (by decide)) (e_Has.eq j40 rfl)) ⟨by decide, by decide⟩ ?_
              refine e_Ok.ps1 (x := (0, y2)) (q := 85) 1 rfl ?_
              refine e_Ok.callS rfl (e_dq hd rfl) rfl rfl (c_268 (by omega)) (fun r118 w119 h120 => ?_)
              obtain ⟨rfl, rfl⟩ := h120
              refine e_Ok.nrm (q := 88) (st' := [(0, 36 * y2 + 16), (1, 276)]) rfl rfl ?_
              refine e_Ok.ps1 (x := (0, 1)) (q := 89) 1 rfl ?_
              refine e_Ok.add (z := 36 * y2 + 17) rfl (e_adl (by decide)) (by omega) ?_
              refine e_Ok.ps1 (x := (0, (-1))) (q := 91) 1 rfl ?_
              refine e_Ok.ast rfl (el_o rfl) rfl rfl (by omega) ?_
              generalize hw121 : e_up w115 276 (36 * y2 + 17) (-1) = w121
              have hH122 : e_Has hTy w121 := e_Has.ups hH116 hw121 rfl
              have hT123 : e_Has mTy w121 := e_Has.upr hT117 hw121 (nR_HOLDS (a := y2) (by omega)) (by omega)
              refine e_Ok.ps1 (x := (1, 275)) (q := 93) 1 rfl ?_
              refine e_Ok.getr (z := 276) rfl (el_o rfl) rfl (ef_o rfl) (e_uq hw121 (Or.inl (by decide)) (e_uq hw115 (Or.inl (by decide)) (e_Has.eq j40 rfl))) ⟨by decide, by decide⟩ ?_
              refine e_Ok.ps1 (x := (0, y2)) (q := 97) 1 rfl ?_
              refine e_Ok.callS rfl (e_dq hd rfl) rfl rfl (c_268 (by omega)) (fun r124 w125 h126 => ?_)
              obtain ⟨rfl, rfl⟩ := h126
              refine e_Ok.nrm (q := 100) (st' := [(0, 36 * y2 + 16), (1, 276)]) rfl rfl ?_
              refine e_Ok.ps1 (x := (0, 2)) (q := 101) 1 rfl ?_
              refine e_Ok.add (z := 36 * y2 + 18) rfl (e_adl (by decide)) (by omega) ?_
              refine e_Ok.ps1 (x := (0, (-1))) (q := 103) 1 rfl ?_
              refine e_Ok.ast rfl (el_o rfl) rfl rfl (by omega) ?_
              generalize hw127 : e_up w121 276 (36 * y2 + 18) (-1) = w127
              have hH128 : e_Has hTy w127 := e_Has.ups hH122 hw127 rfl
              have hT129 : e_Has mTy w127 := e_Has.upr hT123 hw127 (nR_STUCK (a := y2) (by omega)) (by omega)
              refine e_Ok.ps1 (x := (1, 275)) (q := 105) 1 rfl ?_
              refine e_Ok.getr (z := 276) rfl (el_o rfl) rfl (ef_o rfl) (e_uq hw127 (Or.inl (by decide)) (e_uq hw121 (Or.inl (by decide)) (e_uq hw115 (Or.inl (by decide)) (e_Has.eq j40 rfl)))) ⟨by decide, by decide⟩ ?_
              refine e_Ok.ps1 (x := (0, y2)) (q := 109) 1 rfl ?_
              refine e_Ok.callS rfl (e_dq hd rfl) rfl rfl (c_268 (by omega)) (fun r130 w131 h132 => ?_)
              obtain ⟨rfl, rfl⟩ := h132
              refine e_Ok.nrm (q := 112) (st' := [(0, 36 * y2 + 16), (1, 276)]) rfl rfl ?_
              refine e_Ok.ps1 (x := (0, 3)) (q := 113) 1 rfl ?_
              refine e_Ok.add (z := 36 * y2 + 19) rfl (e_adl (by decide)) (by omega) ?_
              refine e_Ok.ps1 (x := (0, (-1))) (q := 115) 1 rfl ?_
              refine e_Ok.ast rfl (el_o rfl) rfl rfl (by omega) ?_
              generalize hw133 : e_up w127 276 (36 * y2 + 19) (-1) = w133
              have hH134 : e_Has hTy w133 := e_Has.ups hH128 hw133 rfl
              have hT135 : e_Has mTy w133 := e_Has.upr hT129 hw133 (nR_WAY_SIZE (a := y2) (by omega)) (by omega)
              refine e_Ok.ps1 (x := (1, 275)) (q := 117) 1 rfl ?_
              refine e_Ok.getr (z := 276) rfl (el_o rfl) rfl (ef_o rfl) (e_uq hw133 (Or.inl (by decide)) (e_uq hw127 (Or.inl (by decide)) (e_uq hw121 (Or.inl (by decide)) (e_uq hw115 (Or.inl (by decide)) (e_Has.eq j40 rfl))))) ⟨by decide, by decide⟩ ?_
              refine e_Ok.ps1 (x := (0, y2)) (q := 121) 1 rfl ?_
              refine e_Ok.callS rfl (e_dq hd rfl) rfl rfl (c_268 (by omega)) (fun r136 w137 h138 => ?_)
              obtain ⟨rfl, rfl⟩ := h138
              refine e_Ok.nrm (q := 124) (st' := [(0, 36 * y2 + 16), (1, 276)]) rfl rfl ?_
              refine e_Ok.ps1 (x := (0, 9)) (q := 126) 1 rfl ?_
              refine e_Ok.add (z := 36 * y2 + 25) rfl (e_adl (by decide)) (by omega) ?_
              refine e_Ok.ps1 (x := (0, (-1))) (q := 128) 1 rfl ?_
              refine e_Ok.ast rfl (el_o rfl) rfl rfl (by omega) ?_
              generalize hw139 : e_up w133 276 (36 * y2 + 25) (-1) = w139
              have hH140 : e_Has hTy w139 := e_Has.ups hH134 hw139 rfl
              have hT141 : e_Has mTy w139 := e_Has.upr hT135 hw139 (nR_MOVER (a := y2) (by omega)) (by omega)
              refine e_Ok.ps1 (x := (1, 275)) (q := 130) 1 rfl ?_
              refine e_Ok.getr (z := 306) rfl (el_o rfl) rfl (ef_o rfl) (e_uq hw139 (Or.inl (by decide)) (e_uq hw133 (Or.inl (by decide)) (e_uq hw127 (Or.inl (by decide)) (e_uq hw121 (Or.inl (by decide)) (e_uq hw115 (Or.inl (by decide)) (e_Has.eq j40 rfl)))))) ⟨by decide, by decide⟩ ?_
              refine e_Ok.ps2 (x := (0, (-1))) (y := (0, y2)) (q := 135) 2 rfl ?_
              refine e_Ok.ast rfl (el_o rfl) rfl rfl (by omega) ?_
              generalize hw142 : e_up w139 306 y2 (-1) = w142
              have hH143 : e_Has hTy w142 := e_Has.ups hH140 hw142 rfl
              have hT144 : e_Has mTy w142 := e_Has.upr hT141 hw142 (mt_o rfl) (by omega)
              refine e_Ok.ps1 (x := (1, 275)) (q := 137) 1 rfl ?_
              refine e_Ok.getr (z := 280) rfl (el_o rfl) rfl (ef_o rfl) (e_uq hw142 (Or.inl (by decide)) (e_uq hw139 (Or.inl (by decide)) (e_uq hw133 (Or.inl (by decide)) (e_uq hw127 (Or.inl (by decide)) (e_uq hw121 (Or.inl (by decide)) (e_uq hw115 (Or.inl (by decide)) (e_Has.eq j40 rfl))))))) ⟨by decide, by decide⟩ ?_
              refine e_Ok.ps2 (x := (0, 0)) (y := (0, y2)) (q := 142) 2 rfl ?_
              refine e_Ok.ast rfl (el_o rfl) rfl rfl (by omega) ?_
              generalize hw145 : e_up w142 280 y2 0 = w145
              have hH146 : e_Has hTy w145 := e_Has.upr hH143 hw145 rfl (by omega)
              have hT147 : e_Has mTy w145 := e_Has.ups hT144 hw145 (mt_o rfl)
              refine e_Ok.ps1 (x := (1, 275)) (q := 144) 1 rfl ?_
              refine e_Ok.getr (z := 338) rfl (el_o rfl) rfl (ef_o rfl) (e_uq hw145 (Or.inl (by decide)) (e_uq hw142 (Or.inl (by decide)) (e_uq hw139 (Or.inl (by decide)) (e_uq hw133 (Or.inl (by decide)) (e_uq hw127 (Or.inl (by decide)) (e_uq hw121 (Or.inl (by decide)) (e_uq hw115 (Or.inl (by decide)) (e_Has.eq j40 rfl)))))))) ⟨by decide, by decide⟩ ?_
              refine e_Ok.ps2 (x := (0, 0)) (y := (0, y2)) (q := 149) 2 rfl ?_
              refine e_Ok.ast rfl (el_o rfl) rfl rfl (by omega) ?_
              generalize hw148 : e_up w145 338 y2 0 = w148
              have hH149 : e_Has hTy w148 := e_Has.ups hH146 hw148 rfl
              have hT150 : e_Has mTy w148 := e_Has.upr hT147 hw148 (mt_o rfl) (by omega)
              refine e_Ok.ps1 (x := (1, 275)) (q := 151) 1 rfl ?_
              refine e_Ok.getr (z := 339) rfl (el_o rfl) rfl (ef_o rfl) (e_uq hw148 (Or.inl (by decide)) (e_uq hw145 (Or.inl (by decide)) (e_uq hw142 (Or.inl (by decide)) (e_uq hw139 (Or.inl (by decide)) (e_uq hw133 (Or.inl (by decide)) (e_uq hw127 (Or.inl (by decide)) (e_uq hw121 (Or.inl (by decide)) (e_uq hw115 (Or.inl (by decide)) (e_Has.eq j40 rfl))))))))) ⟨by decide, by decide⟩ ?_
              refine e_Ok.ps2 (x := (0, 0)) (y := (0, y2)) (q := 156) 2 rfl ?_
              refine e_Ok.ast rfl (el_o rfl) rfl rfl (by omega) ?_
              generalize hw151 : e_up w148 339 y2 0 = w151
              have hH152 : e_Has hTy w151 := e_Has.ups hH149 hw151 rfl
              have hT153 : e_Has mTy w151 := e_Has.upr hT150 hw151 (mt_o rfl) (by omega)
              refine e_Ok.ps1 (x := (1, 275)) (q := 158) 1 rfl ?_
              refine e_Ok.getr (z := 340) rfl (el_o rfl) rfl (ef_o rfl) (e_uq hw151 (Or.inl (by decide)) (e_uq hw148 (Or.inl (by decide)) (e_uq hw145 (Or.inl (by decide)) (e_uq hw142 (Or.inl (by decide)) (e_uq hw139 (Or.inl (by decide)) (e_uq hw133 (Or.inl (by decide)) (e_uq hw127 (Or.inl (by decide)) (e_uq hw121 (Or.inl (by decide)) (e_uq hw115 (Or.inl (by decide)) (e_Has.eq j40 rfl)))))))))) ⟨by decide, by decide⟩ ?_
              refine e_Ok.ps2 (x := (0, 0)) (y := (0, y2)) (q := 163) 2 rfl ?_
              refine e_Ok.ast rfl (el_o rfl) rfl (e_nar_b (by omega)) (by omega) ?_
              generalize hw154 : e_up w151 340 y2 0 = w154
              have hH155 : e_Has hTy w154 := e_Has.ups hH152 hw154 rfl
              have hT156 : e_Has mTy w154 := e_Has.upr hT153 hw154 (mt_o rfl) (by omega)
              refine e_Ok.inc (z := y2 + 1) rfl rfl (by first | with_reducible rfl | omega) (by omega) ?_
              show e_Ok 20 elay ecode eI (d + 1) 267 (167, [(1, (0, y2 + 1)), (0, (1, 275))], [], w154) _
              refine e_Ok.ps0 (q := 68) 1 rfl ?_
              refine e_Ok.sub eAlk (e_sub_of rfl ?_) (ih38 (y2 + 1) w154 ⟨hT156, (rF.up (rF.up (rF.up (rF.up (rF.up (rF.up (rF.up (rF.up (rF.up (rF.up j41 hw115 (by decide)) hw121 (by decide)) hw127 (by decide)) hw133 (by decide)) hw139 (by decide)) hw142 (by decide)) hw145 (by decide)) hw148 (by decide)) hw151 (by decide)) hw154 (by decide)), by omega, (e_fr.up (e_fr.up (e_fr.up (e_fr.up (e_fr.up (e_fr.up (e_fr.up (e_fr.up (e_fr.up (e_fr.up j43 hw115 (by unfold mRa; omega)) hw121 (by unfold mRa; omega)) hw127 (by unfold mRa; omega)) hw133 (by unfold mRa; omega)) hw139 (by unfold mRa; omega)) hw142 (by unfold mRa; omega)) hw145 (by unfold mRa; omega)) hw148 (by unfold mRa; omega)) hw151 (by unfold mRa; omega)) hw154 (by unfold mRa; omega)), (fun a g1 g2 => Decidable.byCases (p := a = y2) (fun e => by rw [e]; exact ⟨(e_uq hw154 (Or.inl (by first | decide | omega)) (e_uq hw151 (Or.inl (by first | decide | omega)) (e_uq hw148 (Or.inl (by first | decide | omega)) (e_uq hw145 (Or.inl (by first | decide | omega)) (e_uq hw142 (Or.inl (by first | decide | omega)) (e_uq hw139 (Or.inl (by first | decide | omega)) (e_uq hw133 (Or.inl (by first | decide | omega)) (e_uq hw127 (Or.inl (by first | decide | omega)) (e_uq hw121 (Or.inl (by first | decide | omega)) (e_ue hw115)))))))))), (e_uq hw154 (Or.inl (by first | decide | omega)) (e_uq hw151 (Or.inl (by first | decide | omega)) (e_ue hw148))), (e_uq hw154 (Or.inl (by first | decide | omega)) (e_uq hw151 (Or.inl (by first | decide | omega)) (e_uq hw148 (Or.inl (by first | decide | omega)) (e_uq hw145 (Or.inl (by first | decide | omega)) (e_uq hw142 (Or.inl (by first | decide | omega)) (e_uq hw139 (Or.inr (by omega)) (e_uq hw133 (Or.inr (by omega)) (e_uq hw127 (Or.inr (by omega)) (e_ue hw121)))))))))⟩) (fun e => ⟨Eq.trans (show w154 286 a = v2 286 a from (e_uq hw154 (Or.inl (by first | decide | omega)) (e_uq hw151 (Or.inl (by first | decide | omega)) (e_uq hw148 (Or.inl (by first | decide | omega)) (e_uq hw145 (Or.inl (by first | decide | omega)) (e_uq hw142 (Or.inl (by first | decide | omega)) (e_uq hw139 (Or.inl (by first | decide | omega)) (e_uq hw133 (Or.inl (by first | decide | omega)) (e_uq hw127 (Or.inl (by first | decide | omega)) (e_uq hw121 (Or.inl (by first | decide | omega)) (e_uq hw115 (Or.inr (by omega)) rfl))))))))))) (j44 a g1 (by omega)).1, Eq.trans (show w154 338 a = v2 338 a from (e_uq hw154 (Or.inl (by first | decide | omega)) (e_uq hw151 (Or.inl (by first | decide | omega)) (e_uq hw148 (Or.inr (by omega)) (e_uq hw145 (Or.inl (by first | decide | omega)) (e_uq hw142 (Or.inl (by first | decide | omega)) (e_uq hw139 (Or.inl (by first | decide | omega)) (e_uq hw133 (Or.inl (by first | decide | omega)) (e_uq hw127 (Or.inl (by first | decide | omega)) (e_uq hw121 (Or.inl (by first | decide | omega)) (e_uq hw115 (Or.inl (by first | decide | omega)) rfl))))))))))) (j44 a g1 (by omega)).2.1, Eq.trans (show w154 276 (36 * a + 17) = v2 276 (36 * a + 17) from (e_uq hw154 (Or.inl (by first | decide | omega)) (e_uq hw151 (Or.inl (by first | decide | omega)) (e_uq hw148 (Or.inl (by first | decide | omega)) (e_uq hw145 (Or.inl (by first | decide | omega)) (e_uq hw142 (Or.inl (by first | decide | omega)) (e_uq hw139 (Or.inr (by omega)) (e_uq hw133 (Or.inr (by omega)) (e_uq hw127 (Or.inr (by omega)) (e_uq hw121 (Or.inr (by omega)) (e_uq hw115 (Or.inl (by first | decide | omega)) rfl))))))))))) (j44 a g1 (by omega)).2.2⟩)), hH155, (r9.up (r9.up (r9.up (r9.up (r9.up (r9.up (r9.up (r9.up (r9.up (r9.up j46 hw115 (by decide)) hw121 (by decide)) hw127 (by decide)) hw133 (by decide)) hw139 (by decide)) hw142 (by decide)) hw145 (by decide)) hw148 (by decide)) hw151 (by decide)) hw154 (by decide))⟩ (by omega))
              exact ⟨rfl, rfl, trivial⟩
        refine e_Ok.sub eAlk (e_sub_of rfl ?_) (hL37 (5 + 1 : Int).toNat 0 v1 ⟨j30, j31, by omega, (e_fr.refl v1), (fun a g1 g2 => by omega), j34, j35⟩ (by omega))
        exact ⟨rfl, rfl, trivial⟩
      · replace h36 : (y1 : Int) < 33060 := Int.not_le.mp (show ¬ ((y1 : Int) ≥ 33060) from h36)
        refine e_Ok.ps1 (x := (1, 275)) (q := 54) 1 rfl ?_
        refine e_Ok.getr (z := 276) rfl (el_o rfl) rfl (ef_o rfl) (e_Has.eq j30 rfl) ⟨by decide, by decide⟩ ?_
        refine e_Ok.ps2 (x := (0, 0)) (y := (0, y1)) (q := 59) 2 rfl ?_
        refine e_Ok.ast rfl (el_o rfl) rfl rfl (by omega) ?_
        generalize hw157 : e_up v1 276 y1 0 = w157
        have hH158 : e_Has hTy w157 := e_Has.ups j34 hw157 rfl
        have hT159 : e_Has mTy w157 := e_Has.zero j30 hw157
        refine e_Ok.inc (z := y1 + 1) rfl rfl (by first | with_reducible rfl | omega) (by omega) ?_
        show e_Ok 20 elay ecode eI (d + 1) 267 (63, [(1, (0, y1 + 1)), (0, (1, 275))], [], w157) _
        refine e_Ok.ps0 (q := 47) 1 rfl ?_
        refine e_Ok.sub eAlk (e_sub_of rfl ?_) (ih29 (y1 + 1) w157 ⟨hT159, (rF.up j31 hw157 (by decide)), by omega, (fun k g1 g2 => Decidable.byCases (p := k = y1) (fun e => by rw [e, ← hw157]; exact e_up_eq _ _ _ _) (fun e => Eq.trans (show w157 276 k = v1 276 k from by rw [← hw157]; exact e_up_ne _ _ (Or.inr e)) (j33 k g1 (by omega)))), hH158, (r9.up j35 hw157 (by decide))⟩ (by omega))
        exact ⟨rfl, rfl, trivial⟩
  refine e_Ok.sub eAlk (e_sub_of rfl ?_) (hL28 (33061 + 1 : Int).toNat 0 w25 ⟨hT27, ⟨(e_uq hw25 (Or.inr (by first | decide | omega)) (e_uq hw22 (Or.inr (by first | decide | omega)) (e_uq hw19 (Or.inr (by first | decide | omega)) (e_uq hw16 (Or.inr (by first | decide | omega)) (e_uq hw13 (Or.inr (by first | decide | omega)) (e_uq hw10 (Or.inr (by first | decide | omega)) (e_uq hw7 (Or.inr (by first | decide | omega)) (e_uq hw4 (Or.inr (by first | decide | omega)) (e_ue hw1))))))))), (e_uq hw25 (Or.inr (by first | decide | omega)) (e_uq hw22 (Or.inr (by first | decide | omega)) (e_uq hw19 (Or.inr (by first | decide | omega)) (e_uq hw16 (Or.inr (by first | decide | omega)) (e_uq hw13 (Or.inr (by first | decide | omega)) (e_uq hw10 (Or.inr (by first | decide | omega)) (e_uq hw7 (Or.inr (by first | decide | omega)) (e_ue hw4)))))))), (e_uq hw25 (Or.inr (by first | decide | omega)) (e_uq hw22 (Or.inr (by first | decide | omega)) (e_uq hw19 (Or.inr (by first | decide | omega)) (e_uq hw16 (Or.inr (by first | decide | omega)) (e_uq hw13 (Or.inr (by first | decide | omega)) (e_uq hw10 (Or.inr (by first | decide | omega)) (e_ue hw7))))))), (e_uq hw25 (Or.inr (by first | decide | omega)) (e_uq hw22 (Or.inr (by first | decide | omega)) (e_uq hw19 (Or.inr (by first | decide | omega)) (e_uq hw16 (Or.inr (by first | decide | omega)) (e_uq hw13 (Or.inr (by first | decide | omega)) (e_ue hw10)))))), (e_uq hw25 (Or.inr (by first | decide | omega)) (e_uq hw22 (Or.inr (by first | decide | omega)) (e_uq hw19 (Or.inr (by first | decide | omega)) (e_uq hw16 (Or.inr (by first | decide | omega)) (e_ue hw13))))), (e_uq hw25 (Or.inr (by first | decide | omega)) (e_uq hw22 (Or.inr (by first | decide | omega)) (e_uq hw19 (Or.inr (by first | decide | omega)) (e_ue hw16)))), (e_uq hw25 (Or.inr (by first | decide | omega)) (e_uq hw22 (Or.inr (by first | decide | omega)) (e_ue hw19))), (e_uq hw25 (Or.inr (by first | decide | omega)) (e_ue hw22))⟩, by omega, (fun k g1 g2 => by omega), hH26, ⟨(e_uq hw25 (Or.inr (by first | decide | omega)) (e_uq hw22 (Or.inr (by first | decide | omega)) (e_uq hw19 (Or.inr (by first | decide | omega)) (e_uq hw16 (Or.inr (by first | decide | omega)) (e_uq hw13 (Or.inr (by first | decide | omega)) (e_uq hw10 (Or.inr (by first | decide | omega)) (e_uq hw7 (Or.inr (by first | decide | omega)) (e_uq hw4 (Or.inr (by first | decide | omega)) (e_uq hw1 (Or.inr (by first | decide | omega)) rfl))))))))), (e_uq hw25 (Or.inr (by first | decide | omega)) (e_uq hw22 (Or.inr (by first | decide | omega)) (e_uq hw19 (Or.inr (by first | decide | omega)) (e_uq hw16 (Or.inr (by first | decide | omega)) (e_uq hw13 (Or.inr (by first | decide | omega)) (e_uq hw10 (Or.inr (by first | decide | omega)) (e_uq hw7 (Or.inr (by first | decide | omega)) (e_uq hw4 (Or.inr (by first | decide | omega)) (e_uq hw1 (Or.inr (by first | decide | omega)) rfl)))))))))⟩⟩ (by omega))
  exact ⟨rfl, rfl, trivial⟩
theorem c_277_h {d : Nat} (hd : 23 ≤ d) {w : eW} (hT : e_Has mTy w) (hH : e_Has hTy w) : e_Ok 20 elay ecode eI d 277 (0, [(0, (1, 275))], [], w) (fun r w' => ∃ z : Int, r = [(0, z)] ∧ e_Has hTy w' ∧ r9 w w' ∧ e_Has mTy w' ∧ newOk w') := by
  obtain ⟨d, rfl⟩ : ∃ e, d = e + 1 := ⟨d - 1, by omega⟩
  refine e_Ok.ps1 (x := (1, 275)) (q := 1) 1 rfl ?_
  refine e_Ok.getr (z := 276) rfl (el_o rfl) rfl (ef_o rfl) (e_Has.eq hT (mt_o rfl)) ⟨by decide, by decide⟩ ?_
  refine e_Ok.ps1 (x := (0, 0)) (q := 5) 1 rfl ?_
  have h1 := (e_Has.get hT (c := 276) (k := 0) (lo := 0) (hi := 6000) (mt_o rfl) (by decide))
  refine e_Ok.ald (z := w 276 0) rfl (el_o rfl) rfl (by omega) rfl (e_bq h1 (by decide) (by decide)) ?_
  refine e_Ok.run (t' := (8, [(1, (0, w 276 0)), (0, (1, 275))], [(1, 275)], w)) 2 rfl ?_
  refine e_Ok.callV rfl (e_dq hd rfl) rfl rfl rfl rfl (c_267_h (e_dq hd rfl) hT hH) (fun r2 w3 h4 => ?_)
  obtain ⟨rfl, qh⟩ := h4
  refine e_Ok.nrm (q := 11) (st' := []) rfl rfl ?_
  refine e_Ok.ps1 (x := (0, w 276 0)) (q := 12) 1 rfl ?_
  refine e_Ok.rets rfl rfl ?_
  exact ⟨_, rfl, qh⟩
end
end
-- part br
section
noncomputable section
/-! what the model keeps from call to call: the rest of building, and what only looks -/
theorem mS_hn (c k : Int) (h : mS c k) : hTy c k = (1, 0) := by
  unfold mS at h
  rcases h with h | h | ⟨rfl, h⟩
  · exact hTy_none (by omega)
  · exact hTy_none (by omega)
  · have h' : k = 58 ∨ k = 59 ∨ k = 60 ∨ k = 78 ∨ k = 79 ∨ k = 80 ∨ k = 81 ∨ k = 82 ∨ k = 83 ∨ k = 84 ∨ k = 85 ∨ k = 86 ∨ k = 87 ∨ k = 94 ∨ k = 96 ∨ k = 97 ∨ k = 98 ∨ k = 99 ∨ k = 100 ∨ k = 102 ∨ k = 110 ∨ k = 111 ∨ k = 112 := by omega
    rcases h' with rfl | rfl | rfl | rfl | rfl | rfl | rfl | rfl | rfl | rfl | rfl | rfl | rfl | rfl | rfl | rfl | rfl | rfl | rfl | rfl | rfl | rfl | rfl
    all_goals rfl
def scN (c k : Int) : Prop := (c ≠ 276 ∧ cfN c k) ∧ mTy c k = (1, 0) ∧ ¬ ((277 ≤ c ∧ c ≤ 279) ∨ (354 ≤ c ∧ c ≤ 356) ∨ (c = 275 ∧ (k = 3 ∨ k = 5 ∨ k = 6 ∨ k = 10 ∨ k = 118)))
theorem mRel.gen {S : Int → Int → Prop} {w w' : eW} (h : mRel w) (hF : e_fr S w w') (hS : ∀ c k, S c k → scN c k) (hT : e_Has mTy w') (hH : e_Has hTy w') : mRel w' ∧ w' 275 3 = w 275 3 ∧ w' 275 10 = w 275 10 := by
  obtain ⟨h1, h2, h3, h4⟩ := h
  have f : ∀ k, k = 3 ∨ k = 5 ∨ k = 6 ∨ k = 10 ∨ k = 118 → w' 275 k = w 275 k := fun k q => hF 275 k (fun y => (hS _ _ y).2.2 (Or.inr (Or.inr ⟨rfl, q⟩)))
  have e3 := f 3 (by omega)
  refine ⟨⟨hT, hH, ⟨(f 6 (by omega)).trans h3.1, fun g => (f 5 (by omega)).trans (h3.2 (e3.symm.trans g))⟩, ?_⟩, e3, f 10 (by omega)⟩
  rcases h4 with ⟨g1, G, g⟩ | ⟨g1, G, S', g⟩
  · exact Or.inl ⟨e3.trans g1, G, g.1.cfg hF hT (fun c k y => (hS c k y).1), g.2⟩
  · have h118 := e_Has.get hH (c := 275) (k := 118) (lo := 0) (hi := 60) rfl (by decide)
    have e118 := f 118 (by omega)
    refine Or.inr ⟨e3.trans g1, G, S', g.low (fun c k c6 q => hF c k (fun y => ?_)) (fun k => hF 276 k (fun y => (hS _ _ y).1.1 rfl)) (by omega) ((f 6 (by omega)).trans h3.1)⟩
    obtain ⟨y1, y2, y3⟩ := hS c k y
    rcases q with q | q | q | q
    · unfold K0 at q
      rw [y2] at q
      exact absurd q (by decide)
    · exact y3 (Or.inl q)
    · exact y3 (Or.inr (Or.inl q))
    · exact y3 (Or.inr (Or.inr ⟨q.1, by omega⟩))
theorem mRel.scr {S : Int → Int → Prop} {w w' : eW} (h : mRel w) (hF : e_fr S w w') (hS : ∀ c k, S c k → mS c k) : mRel w' ∧ sm3 w w' := by
  have hF' := hF.mono hS
  have e9 : w' 275 9 = w 275 9 := hF' 275 9 (by unfold mS; omega)
  obtain ⟨r1, r2, r3⟩ := h.gen hF' (fun c k y => ⟨⟨by unfold mS at y; omega, by unfold mS at y; unfold cfN; omega⟩, mS_none c k y, by unfold mS at y; omega⟩) (mT_S hF' h.1) (h.2.1.fr mS_hn hF')
  exact ⟨r1, r2, e9, r3⟩
theorem mRel.same {w : eW} (h : mRel w) : mRel w ∧ sm3 w w := ⟨h, rfl, rfl, rfl⟩
theorem mRel.ac {w : eW} (h : mRel w) : mAc w := by
  rcases h.2.2.2 with ⟨-, G, g⟩ | ⟨-, G, S, g⟩
  · exact g.1.2.1
  · exact g.inv.2.1
theorem mRel.or {w : eW} (h : mRel w) : mOr w (w 275 40) := by
  rcases h.2.2.2 with ⟨-, G, g⟩ | ⟨-, G, S, g⟩
  · exact g.1.2.2.2.2.2.1
  · exact g.inv.2.2.2.2.2.2.1
theorem m_437 {d : Nat} (hd : 23 ≤ d) {w : eW} (h : mRel w) : e_Ok 20 elay ecode eI d 437 (0, [(0, (1, 275))], [], w) (fun r w' => ∃ z : Int, r = [(0, z)] ∧ mRel w' ∧ sm3 w w') :=
  (c_437 hd h.1 h.2.1).imp (fun r w' q => by obtain ⟨z, hr, rfl⟩ := q; exact ⟨z, hr, h.same⟩)
theorem m_448 {d : Nat} (hd : 23 ≤ d) {w : eW} (h : mRel w) : e_Ok 20 elay ecode eI d 448 (0, [(0, (1, 275))], [], w) (fun r w' => ∃ z : Int, r = [(0, z)] ∧ mRel w' ∧ sm3 w w') :=
  (c_448 hd h.1 h.2.1).imp (fun r w' q => by obtain ⟨z, hr, rfl⟩ := q; exact ⟨z, hr, h.same⟩)
theorem m_445 {d : Nat} (hd : 23 ≤ d) {w : eW} (h : mRel w) {p1 : Int} (g1 : -2147483648 ≤ p1 ∧ p1 ≤ 2147483647) : e_Ok 20 elay ecode eI d 445 (0, [(0, (1, 275)), (1, (0, p1))], [], w) (fun r w' => ∃ z : Int, r = [(0, z)] ∧ mRel w' ∧ sm3 w w') :=
  (c_445 hd h.1 h.2.1 g1).imp (fun r w' q => by obtain ⟨z, hr, rfl⟩ := q; exact ⟨z, hr, h.same⟩)
theorem m_439 {d : Nat} (hd : 23 ≤ d) {w : eW} (h : mRel w) {p1 p2 : Int} (g1 : -2147483648 ≤ p1 ∧ p1 ≤ 2147483647) (g2 : -2147483648 ≤ p2 ∧ p2 ≤ 2147483647) : e_Ok 20 elay ecode eI d 439 (0, [(0, (1, 275)), (1, (0, p1)), (2, (0, p2))], [], w) (fun r w' => ∃ z : Int, r = [(0, z)] ∧ mRel w' ∧ sm3 w w') :=
  (c_439 hd h.1 h.2.1 g1 g2).imp (fun r w' q => by obtain ⟨z, hr, rfl⟩ := q; exact ⟨z, hr, h.same⟩)
theorem m_443 {d : Nat} (hd : 23 ≤ d) {w : eW} (h : mRel w) {p1 p2 : Int} (g1 : -2147483648 ≤ p1 ∧ p1 ≤ 2147483647) (g2 : -2147483648 ≤ p2 ∧ p2 ≤ 2147483647) : e_Ok 20 elay ecode eI d 443 (0, [(0, (1, 275)), (1, (0, p1)), (2, (0, p2))], [], w) (fun r w' => ∃ z : Int, r = [(0, z)] ∧ mRel w' ∧ sm3 w w') :=
  (c_443 hd h.1 h.2.1 g1 g2).imp (fun r w' q => by obtain ⟨z, hr, rfl⟩ := q; exact ⟨z, hr, h.same⟩)
theorem m_438 {d : Nat} (hd : 23 ≤ d) {w : eW} (h : mRel w) {p1 p2 : Int} (g1 : -2147483648 ≤ p1 ∧ p1 ≤ 2147483647) (g2 : -2147483648 ≤ p2 ∧ p2 ≤ 2147483647) : e_Ok 20 elay ecode eI d 438 (0, [(0, (1, 275)), (1, (0, p1)), (2, (0, p2))], [], w) (fun r w' => ∃ z : Int, r = [(0, z)] ∧ mRel w' ∧ sm3 w w') :=
  (c_438 hd h.1 h.2.1 g1 g2).imp (fun r w' q => by obtain ⟨z, hr, rfl⟩ := q; exact ⟨z, hr, h.same⟩)
theorem m_441 {d : Nat} (hd : 23 ≤ d) {w : eW} (h : mRel w) {p1 p2 : Int} (g1 : -2147483648 ≤ p1 ∧ p1 ≤ 2147483647) (g2 : -2147483648 ≤ p2 ∧ p2 ≤ 2147483647) : e_Ok 20 elay ecode eI d 441 (0, [(0, (1, 275)), (1, (0, p1)), (2, (0, p2))], [], w) (fun r w' => ∃ z : Int, r = [(0, z)] ∧ mRel w' ∧ sm3 w w') :=
  (c_441 hd h.1 h.2.1 g1 g2).imp (fun r w' q => by obtain ⟨z, hr, rfl⟩ := q; exact ⟨z, hr, h.same⟩)
theorem m_449 {d : Nat} (hd : 23 ≤ d) {w : eW} (h : mRel w) {p1 p2 : Int} (g1 : -2147483648 ≤ p1 ∧ p1 ≤ 2147483647) (g2 : -2147483648 ≤ p2 ∧ p2 ≤ 2147483647) : e_Ok 20 elay ecode eI d 449 (0, [(0, (1, 275)), (1, (0, p1)), (2, (0, p2))], [], w) (fun r w' => ∃ z : Int, r = [(0, z)] ∧ mRel w' ∧ sm3 w w') :=
  (c_449 hd h.1 h.2.1 g1 g2).imp (fun r w' q => by obtain ⟨z, hr, rfl⟩ := q; exact ⟨z, hr, h.same⟩)
theorem m_451 {d : Nat} (hd : 23 ≤ d) {w : eW} (h : mRel w) {p1 : Int} (g1 : -2147483648 ≤ p1 ∧ p1 ≤ 2147483647) : e_Ok 20 elay ecode eI d 451 (0, [(0, (1, 275)), (1, (0, p1))], [], w) (fun r w' => ∃ z : Int, r = [(0, z)] ∧ mRel w' ∧ sm3 w w') :=
  (c_451 hd h.1 h.2.1 g1).imp (fun r w' q => by obtain ⟨z, hr, rfl⟩ := q; exact ⟨z, hr, h.same⟩)
theorem m_442 {d : Nat} (hd : 23 ≤ d) {w : eW} (h : mRel w) {p1 p2 : Int} (g1 : -2147483648 ≤ p1 ∧ p1 ≤ 2147483647) (g2 : -2147483648 ≤ p2 ∧ p2 ≤ 2147483647) : e_Ok 20 elay ecode eI d 442 (0, [(0, (1, 275)), (1, (0, p1)), (2, (0, p2))], [], w) (fun r w' => ∃ z : Int, r = [(0, z)] ∧ mRel w' ∧ sm3 w w') :=
  (c_442 hd h.1 h.2.1 g1 g2).imp (fun r w' q => by obtain ⟨z, hr, rfl⟩ := q; exact ⟨z, hr, h.same⟩)
theorem m_447 {d : Nat} (hd : 23 ≤ d) {w : eW} (h : mRel w) {p1 : Int} (g1 : -2147483648 ≤ p1 ∧ p1 ≤ 2147483647) : e_Ok 20 elay ecode eI d 447 (0, [(0, (1, 275)), (1, (0, p1))], [], w) (fun r w' => ∃ z : Int, r = [(0, z)] ∧ mRel w' ∧ sm3 w w') :=
  (c_447 hd h.1 h.2.1 g1).imp (fun r w' q => by obtain ⟨z, hr, rfl⟩ := q; exact ⟨z, hr, h.same⟩)
theorem m_358 {d : Nat} (hd : 23 ≤ d) {w : eW} (h : mRel w) {p1 : Int} (g1 : -2147483648 ≤ p1 ∧ p1 ≤ 2147483647) : e_Ok 20 elay ecode eI d 358 (0, [(0, (1, 275)), (1, (0, p1))], [], w) (fun r w' => ∃ z : Int, r = [(0, z)] ∧ mRel w' ∧ sm3 w w') :=
  (c_358 hd h.1 h.2.1 g1).imp (fun r w' q => by obtain ⟨z, hr, rfl⟩ := q; exact ⟨z, hr, h.same⟩)
theorem m_450 {d : Nat} (hd : 23 ≤ d) {w : eW} (h : mRel w) {p1 : Int} (g1 : -2147483648 ≤ p1 ∧ p1 ≤ 2147483647) : e_Ok 20 elay ecode eI d 450 (0, [(0, (1, 275)), (1, (0, p1))], [], w) (fun r w' => ∃ z : Int, r = [(0, z)] ∧ mRel w' ∧ sm3 w w') :=
  (c_450 hd h.1 h.2.1 g1).imp (fun r w' q => by obtain ⟨z, hr, rfl⟩ := q; exact ⟨z, hr, h.same⟩)
theorem m_444 {d : Nat} (hd : 23 ≤ d) {w : eW} (h : mRel w) {p1 p2 : Int} (g1 : -2147483648 ≤ p1 ∧ p1 ≤ 2147483647) (g2 : -2147483648 ≤ p2 ∧ p2 ≤ 2147483647) : e_Ok 20 elay ecode eI d 444 (0, [(0, (1, 275)), (1, (0, p1)), (2, (0, p2))], [], w) (fun r w' => ∃ z : Int, r = [(0, z)] ∧ mRel w' ∧ sm3 w w') :=
  (c_444 hd h.1 h.2.1 g1 g2 h.ac).imp (fun r w' q => by obtain ⟨z, hr, q⟩ := q; exact ⟨z, hr, h.scr q (fun c k y => by unfold mQ at y; unfold mS; omega)⟩)
theorem m_440 {d : Nat} (hd : 24 ≤ d) {w : eW} (h : mRel w) {p1 p2 p3 : Int} (g1 : -2147483648 ≤ p1 ∧ p1 ≤ 2147483647) (g2 : -2147483648 ≤ p2 ∧ p2 ≤ 2147483647) (g3 : -2147483648 ≤ p3 ∧ p3 ≤ 2147483647) : e_Ok 20 elay ecode eI d 440 (0, [(0, (1, 275)), (1, (0, p1)), (2, (0, p2)), (3, (0, p3))], [], w) (fun r w' => ∃ z : Int, r = [(0, z)] ∧ mRel w' ∧ sm3 w w') :=
  (c_440 hd h.1 h.2.1 g1 g2 g3).imp (fun r w' q => by obtain ⟨z, hr, q⟩ := q; exact ⟨z, hr, h.scr q (fun c k y => by unfold mP at y; unfold mS; omega)⟩)
theorem m_318 {d : Nat} (hd : 27 ≤ d) {w : eW} (h : mRel w) {p1 p2 : Int} (g1 : -2147483648 ≤ p1 ∧ p1 ≤ 2147483647) (g2 : -2147483648 ≤ p2 ∧ p2 ≤ 2147483647) : e_Ok 20 elay ecode eI d 318 (0, [(0, (1, 275)), (1, (0, p1)), (2, (0, p2))], [], w) (fun r w' => ∃ z : Int, r = [(0, z)] ∧ mRel w' ∧ sm3 w w') :=
  (c_318 hd h.1 h.2.1 g1 g2).imp (fun r w' q => by obtain ⟨z, hr, q⟩ := q; exact ⟨z, hr, h.scr q (fun c k y => by unfold mPL at y; unfold mS; omega)⟩)
theorem m_446 {d : Nat} (hd : 27 ≤ d) {w : eW} (h : mRel w) {p1 p2 : Int} (g1 : -2147483648 ≤ p1 ∧ p1 ≤ 2147483647) (g2 : -2147483648 ≤ p2 ∧ p2 ≤ 2147483647) : e_Ok 20 elay ecode eI d 446 (0, [(0, (1, 275)), (1, (0, p1)), (2, (0, p2))], [], w) (fun r w' => ∃ z : Int, r = [(0, z)] ∧ mRel w' ∧ sm3 w w') :=
  (c_446 hd h.1 h.2.1 g1 g2).imp (fun r w' q => by obtain ⟨z, hr, q⟩ := q; exact ⟨z, hr, h.scr q (fun c k y => by unfold mP at y; unfold mS; omega)⟩)
theorem tp_sc (c k : Int) (h : mTape c k) : scN c k := by
  rcases h with ⟨rfl, rfl⟩ | rfl
  · exact ⟨⟨by decide, by unfold cfN; omega⟩, rfl, by omega⟩
  · exact ⟨⟨by decide, by unfold cfN; omega⟩, rfl, by omega⟩
theorem m_274 {d : Nat} (hd : 21 ≤ d) {w : eW} (h : mRel w) {a b c e f : Int} : e_Ok 20 elay ecode eI d 274 (0, [(0, (1, 275)), (1, (0, a)), (2, (0, b)), (3, (0, c)), (4, (0, e)), (5, (0, f))], [], w) (fun r w' => ∃ z : Int, r = [(0, z)] ∧ mRel w' ∧ w' 275 3 = w 275 3 ∧ w' 275 10 = w 275 10 ∧ ((w 275 9 ≤ 3980 ∧ z = w 275 9 + 20 ∧ w' 275 9 = w 275 9 + 20) ∨ (3980 < w 275 9 ∧ z = -3 ∧ w' 275 9 = w 275 9))) :=
  (c_274 hd h.1 h.2.1).imp (fun r w' q => by
    obtain ⟨z, hr, q1, q2, q3, q4⟩ := q
    obtain ⟨r1, r2, r3⟩ := h.gen q1 tp_sc q2 q3
    exact ⟨z, hr, r1, r2, r3, q4⟩)
theorem m_276 {d : Nat} (hd : 21 ≤ d) {w : eW} (h : mRel w) {a : Int} : e_Ok 20 elay ecode eI d 276 (0, [(0, (1, 275)), (1, (0, a))], [], w) (fun r w' => ∃ z : Int, r = [(0, z)] ∧ mRel w' ∧ w' 275 3 = w 275 3 ∧ w' 275 10 = w 275 10 ∧ ((0 ≤ a ∧ a ≤ w 275 9 ∧ z = w 275 9 - a ∧ w' 275 9 = w 275 9 - a) ∨ ((a < 0 ∨ w 275 9 < a) ∧ z = -1 ∧ w' 275 9 = w 275 9))) :=
  (c_276 hd h.1 h.2.1).imp (fun r w' q => by
    obtain ⟨z, hr, q1, q2, q3, q4⟩ := q
    obtain ⟨r1, r2, r3⟩ := h.gen q1 tp_sc q2 q3
    exact ⟨z, hr, r1, r2, r3, q4⟩)
theorem m_277 {d : Nat} (hd : 23 ≤ d) {w : eW} (h : mRel w) : e_Ok 20 elay ecode eI d 277 (0, [(0, (1, 275))], [], w) (fun r w' => ∃ z : Int, r = [(0, z)] ∧ mRel w' ∧ w' 275 3 = 0 ∧ w' 275 10 = 0 ∧ w' 275 9 = w 275 9) :=
  (c_277_h hd h.1 h.2.1).imp (fun r w' q => by
    obtain ⟨z, hr, q1, q2, q3, q4⟩ := q
    exact ⟨z, hr, ⟨q3, q1, ⟨q2.1.trans h.2.2.1.1, fun _ => q4.1.2.2.2.2.2.2.2⟩, Or.inl ⟨q4.1.1, G0, newOk.bInvP q3 q4⟩⟩, q4.1.1, q4.1.2.1, q2.2⟩)
/-- building calls that are not of the form of 'mF' -/
theorem mRel.bld2 {S : Int → Int → Prop} {w w' : eW} (h : mRel w) (ho : w 275 3 = 0) (hF : e_fr S w w') (hT : e_Has mTy w') (hS : ∀ c k, S c k → hTy c k = (1, 0) ∧ ¬ (c = 275 ∧ (k = 3 ∨ k = 5 ∨ k = 6 ∨ k = 9 ∨ k = 10))) (hI : ∀ G, bInv w G → bInv w' G) : mRel w' ∧ sm3 w w' := by
  obtain ⟨h1, h2, h3, h4⟩ := h
  have f : ∀ k, k = 3 ∨ k = 5 ∨ k = 6 ∨ k = 9 ∨ k = 10 → w' 275 k = w 275 k := fun k q => hF 275 k (fun y => (hS _ _ y).2 ⟨rfl, q⟩)
  refine ⟨⟨hT, h2.fr (fun c k y => (hS c k y).1) hF, ⟨(f 6 (by omega)).trans h3.1, fun _ => (f 5 (by omega)).trans (h3.2 ho)⟩, ?_⟩, f 3 (by omega), f 9 (by omega), f 10 (by omega)⟩
  rcases h4 with ⟨-, G, g⟩ | ⟨g, -⟩
  · exact Or.inl ⟨(f 3 (by omega)).trans ho, G, hI G g.1, g.2⟩
  · omega
theorem m_279 {d : Nat} (hd : 23 ≤ d) {w : eW} (h : mRel w) {p1 p2 p3 p4 p5 : Int} (g1 : -2147483648 ≤ p1 ∧ p1 ≤ 2147483647) (g2 : -2147483648 ≤ p2 ∧ p2 ≤ 2147483647) (g3 : -2147483648 ≤ p3 ∧ p3 ≤ 2147483647) (g4 : -2147483648 ≤ p4 ∧ p4 ≤ 2147483647) (g5 : -2147483648 ≤ p5 ∧ p5 ≤ 2147483647) : e_Ok 20 elay ecode eI d 279 (0, [(0, (1, 275)), (1, (0, p1)), (2, (0, p2)), (3, (0, p3)), (4, (0, p4)), (5, (0, p5))], [], w) (fun r w' => ∃ z : Int, r = [(0, z)] ∧ mRel w' ∧ sm3 w w') :=
  (c_279 hd h.1 g1 g2 g3 g4 g5).imp (fun r w' q => by
    obtain ⟨z, hr, hT, q⟩ := q
    rcases q with rfl | ⟨q1, q2, q3, q4, -, -, q7, q8⟩
    · exact ⟨z, hr, h.same⟩
    · exact ⟨z, hr, h.bld2 q2 q3 hT (fun c k y => ⟨hTy_none (by unfold mJo at y; omega), by unfold mJo at y; omega⟩) (fun G g => g.joint ⟨q1.1, q1.2.1⟩ q3 hT q4 q7 q8)⟩)
theorem m_295 {d : Nat} (hd : 22 ≤ d) {w : eW} (h : mRel w) {p1 p2 p3 : Int} (g1 : -2147483648 ≤ p1 ∧ p1 ≤ 2147483647) (g2 : -2147483648 ≤ p2 ∧ p2 ≤ 2147483647) (g3 : 0 ≤ p3 ∧ p3 ≤ 1) : e_Ok 20 elay ecode eI d 295 (0, [(0, (1, 275)), (1, (0, p1)), (2, (0, p2)), (3, (0, p3))], [], w) (fun r w' => ∃ z : Int, r = [(0, z)] ∧ mRel w' ∧ sm3 w w') :=
  (c_295 hd h.1 h.ac g1 g2 g3).imp (fun r w' q => by
    obtain ⟨z, hr, hT, q, hA⟩ := q
    rcases q with rfl | ⟨q1, q2⟩
    · exact ⟨z, hr, h.same⟩
    · exact ⟨z, hr, h.bld2 q1 q2 hT (fun c k y => by
        unfold mF at y
        rcases y with ⟨rfl, rfl⟩ | y
        · exact ⟨rfl, by omega⟩
        · exact ⟨hTy_none (by omega), by omega⟩) (fun G g => g.wire q2 hT hA)⟩)
theorem pr_hn (c k : Int) (h : mPr c k) : hTy c k = (1, 0) ∧ ¬ (c = 275 ∧ (k = 3 ∨ k = 5 ∨ k = 6 ∨ k = 9 ∨ k = 10)) := by
  rcases h with rfl | ⟨rfl, rfl⟩ | ⟨rfl, -⟩
  · exact ⟨rfl, by omega⟩
  · exact ⟨rfl, by omega⟩
  · exact ⟨rfl, by omega⟩
theorem m_289 {d : Nat} (hd : 24 ≤ d) {w : eW} (h : mRel w) {p1 p2 p3 : Int} (g1 : -2147483648 ≤ p1 ∧ p1 ≤ 2147483647) (g2 : -2147483648 ≤ p2 ∧ p2 ≤ 2147483647) (g3 : -2147483648 ≤ p3 ∧ p3 ≤ 2147483647) : e_Ok 20 elay ecode eI d 289 (0, [(0, (1, 275)), (1, (0, p1)), (2, (0, p2)), (3, (0, p3))], [], w) (fun r w' => ∃ z : Int, r = [(0, z)] ∧ mRel w' ∧ sm3 w w') :=
  (c_289 hd h.1 g1 g2 g3 h.or).imp (fun r w' q => by
    obtain ⟨z, hr, q⟩ := q
    rcases q with rfl | ⟨q1, q2, q3, q4, q5⟩
    · exact ⟨z, hr, h.same⟩
    · exact ⟨z, hr, h.bld2 q1 q2 q3 pr_hn (fun G g => g.part q2 q3 q5)⟩)
theorem m_290 {d : Nat} (hd : 24 ≤ d) {w : eW} (h : mRel w) {p1 p2 p3 : Int} (g1 : -2147483648 ≤ p1 ∧ p1 ≤ 2147483647) (g2 : -2147483648 ≤ p2 ∧ p2 ≤ 2147483647) (g3 : -2147483648 ≤ p3 ∧ p3 ≤ 2147483647) : e_Ok 20 elay ecode eI d 290 (0, [(0, (1, 275)), (1, (0, p1)), (2, (0, p2)), (3, (0, p3))], [], w) (fun r w' => ∃ z : Int, r = [(0, z)] ∧ mRel w' ∧ sm3 w w') :=
  (c_290 hd h.1 g1 g2 g3 h.or).imp (fun r w' q => by
    obtain ⟨z, hr, q⟩ := q
    rcases q with rfl | ⟨q1, q2, q3, q4, q5⟩
    · exact ⟨z, hr, h.same⟩
    · exact ⟨z, hr, h.bld2 q1 q2 q3 pr_hn (fun G g => g.part q2 q3 q5)⟩)
end
end
-- part bs
section
noncomputable section
/-! what the model keeps from call to call: open -/
theorem out_277 {k : Int} (h : k < 0 ∨ 33060 ≤ k) : e_out elay 277 k := ⟨by decide, by decide, fun kd cl n e => by
  have e1 : (some ((1 : Nat), (0 : Nat), (33060 : Nat))).map (fun q => q.2.2) = (elay[(277 : Int).toNat]?).map (fun q => q.2.2) := by decide +kernel
  rw [e] at e1
  have : 33060 = n := Option.some.inj e1
  omega⟩
theorem op_hT {w w' : eW} (hF : e_fr mOp w w') (hH : e_Has hTy w) (hT : e_Has mTy w') (h5 : w' 275 5 = 0) (hk : ∀ k, 0 ≤ k → k < 33060 → w' 277 k = w' 276 k) (ho : ∀ k, (k < 0 ∨ 33060 ≤ k) → w' 277 k = w 277 k) : e_Has hTy w' := fun c k hl => by
  by_cases q : mOp c k
  · unfold mOp mK at q
    by_cases c7 : c = 277
    · subst c7
      by_cases g : 0 ≤ k ∧ k < 33060
      · rw [hk k g.1 g.2]
        exact e_Has.now hT k
      · rw [ho k (by omega)]
        exact hH 277 k hl
    · rcases q with ⟨rfl, rfl | rfl⟩ | (⟨rfl, -⟩ | rfl | rfl) | q
      · exact absurd hl (by decide)
      · rw [h5]
        decide
      · exact absurd hl (show ¬ ((1 : Int) ≤ 0) by decide)
      · exact absurd hl (show ¬ ((1 : Int) ≤ 0) by decide)
      · exact absurd hl (show ¬ ((1 : Int) ≤ 0) by decide)
      · exact absurd q c7
  · rw [hF c k q]
    exact hH c k hl
theorem no_bs_0 : ¬ mOp 275 9 := by unfold mOp mK; omega
theorem no_bs_1 : ¬ mOp 275 10 := by unfold mOp mK; omega
theorem no_bs_2 : ¬ mOp 275 6 := by unfold mOp mK; omega
theorem no_bs_3 : ¬ mOp 275 118 := by unfold mOp mK; omega
theorem no_bs_4 : ¬ mOp 276 0 := by unfold mOp mK; omega
theorem no_bs_5 : ¬ mOp 276 5 := by unfold mOp mK; omega
theorem m_296 {d : Nat} (hd : 25 ≤ d) {w : eW} (h : mRel w) : e_Ok 20 elay ecode eI d 296 (0, [(0, (1, 275))], [], w) (fun r w' => ∃ z : Int, r = [(0, z)] ∧ mRel w' ∧ w' 275 3 = 1 ∧ w' 275 9 = w 275 9 ∧ w' 275 10 = w 275 10) := by
  have h3 := e_Has.get h.1 (c := 275) (k := 3) (lo := 0) (hi := 1) rfl (by decide)
  obtain ⟨h1, h2, h6, h4⟩ := id h
  rcases h4 with ⟨g0, G, g⟩ | ⟨g0, G, S, g⟩
  · refine (e_Ok.out eAlk (c_296 hd g.1.inv)).imp (fun r w' q => ?_)
    obtain ⟨⟨z, hr, q⟩, ho⟩ := q
    rcases q with ⟨rfl, q⟩ | ⟨q1, q2, q3, q4, q5, q7⟩
    · exact absurd g0 q
    · have e9 : w' 275 9 = w 275 9 := q5 275 9 no_bs_0
      have e10 : w' 275 10 = w 275 10 := q5 275 10 no_bs_1
      have e6 : w' 275 6 = 0 := (q5 275 6 no_bs_2).trans h6.1
      have e18 : w' 275 118 = w 275 118 := q5 275 118 no_bs_3
      have t0 : w' 276 0 = w 276 0 := q5 276 0 no_bs_4
      have t5 : w' 276 5 = w 276 5 := q5 276 5 no_bs_5
      have h118 := e_Has.get h2 (c := 275) (k := 118) (lo := 0) (hi := 60) rfl (by decide)
      have hq : qtB w := g.1.2.2.2.2.2.2.2
      have hq0 := hq.1
      have hH' := op_hT q5 h2 q4.1 q3 q7 (fun k y => ho 277 k (out_277 y))
      exact ⟨z, hr, ⟨q4.1, hH', ⟨e6, fun g => by omega⟩, Or.inr ⟨q2, G, _, bkI.open0 q4 q3 e6 (by omega) (by omega) q7⟩⟩, q2, e9, e10⟩
  · refine (c_296 hd g.inv).imp (fun r w' q => ?_)
    obtain ⟨z, hr, q⟩ := q
    rcases q with ⟨rfl, q⟩ | ⟨q1, -⟩
    · exact ⟨z, hr, h, g0, rfl, rfl⟩
    · omega
end
end
-- part bt
section
noncomputable section
/-! numbers that nobody knows may be known again -/
def inZ (x : Int) : Prop := -2147483648 ≤ x ∧ x ≤ 2147483647
/-- u knows all that w knows -/
def mor (w u : eW) : Prop := ∀ c k, inZ (w c k) → u c k = w c k
theorem low_in {w : eW} (hT : e_Has mTy w) {c k : Int} (h : K0 c k) : inZ (w c k) := by
  have h1 := hT c k h
  have h2 := tyP.m c k h
  unfold inZ
  exact ⟨by omega, by omega⟩
theorem mor.K {w u : eW} (hT : e_Has mTy w) (hu : mor w u) : ∀ c k, K0 c k → u c k = w c k := fun c k q => hu c k (low_in hT q)
theorem wn_276 (w : eW) (s : Int → Int) (k : Int) : wn w s 276 k = s k := by unfold wn; rw [if_pos rfl]
theorem bkI.res {w u : eW} {G : Int → Gh} {S : Int → Int → Int} (h : bkI w G S) (hT : e_Has mTy w) (hu : mor w u) : bkI u G S := by
  obtain ⟨h1, h2, h3, h4, h5, h6, h7, h8, h9⟩ := h
  have hK := mor.K hT hu
  have z : ∀ {x : Int}, -2147483648 ≤ x → x ≤ 2147483647 → inZ x := fun a b => ⟨a, b⟩
  have e5 : u 275 5 = w 275 5 := hu _ _ (z (by omega) (by omega))
  have e18 : u 275 118 = w 275 118 := hu _ _ (z (by omega) (by omega))
  have e6 : u 275 6 = w 275 6 := hu _ _ (z (by omega) (by omega))
  have hS : ∀ i k, 0 ≤ i → i ≤ w 275 5 → inZ (S i k) := fun i k g1 g2 => by
    have q := e_Has.now (h2 i g1 g2).1.1 k
    rw [wn_276] at q
    exact q
  have e56 : ∀ i, 0 ≤ i → i < w 275 5 → u 356 i = w 356 i := fun i g1 g2 => by
    have := h6 i i g1 (Int.le_refl i) g2
    exact hu _ _ (z (by omega) (by omega))
  refine ⟨fun k => by rw [e5, hK 276 k (K0_now k)]; exact h1 k, fun i g1 g2 => ?_, fun k g1 g2 => ?_, fun q k g1 g2 g3 g4 => ?_, fun i g1 g2 => ?_, fun i j g1 g2 g3 => ?_, by omega, by omega, by omega⟩
  · obtain ⟨q1, q2, q3⟩ := h2 i g1 (by omega)
    exact ⟨q1.low (wn_of (fun c k _ q => hK c k q)), q2, fun k g => by rw [hK 276 k (K0_now k)]; exact q3 k g⟩
  · have q := h3 k g1 g2
    rw [hu 277 k (by rw [q]; exact hS 0 k (by omega) h9.1)]
    exact q
  · have y := h4 q k g1 (by omega) g3 g4
    rw [hu 278 _ (by rw [y]; exact hS (100 * q) k (by omega) (by omega))]
    exact y
  · have y := h5 i g1 (by omega)
    have y6 := h6 i i g1 (Int.le_refl i) (by omega)
    obtain ⟨y1, y2⟩ := y
    have a9 : ∀ j, 4 * i ≤ j → j ≤ 4 * i + 3 → u 279 j = w 279 j := fun j j1 j2 => hu 279 j (y1 j j1 j2)
    have hw := wn_of (w := w) (v := u) (s := S i) (fun c k _ q => hK c k q)
    refine ⟨fun j j1 j2 => by rw [a9 j j1 j2]; exact y1 j j1 j2, ?_⟩
    rw [a9 (4 * i) (by omega) (by omega), a9 (4 * i + 1) (by omega) (by omega), a9 (4 * i + 2) (by omega) (by omega), a9 (4 * i + 3) (by omega) (by omega)]
    rcases y2 with ⟨q2, q3⟩ | ⟨q2, q3, z', g, z1, z2, z3, z4, z5⟩
    · exact Or.inl ⟨q2.low hw, fun k => by rw [rowF_eq hw]; exact q3 k⟩
    · have e55 : u 355 i = w 355 i := hu _ _ (z (by omega) (by omega))
      rw [e55, e56 i g1 (by omega)]
      exact Or.inr ⟨q2, q3.low hw, z', g, z1, z2, z3, fun j j1 j2 => by
        have := z4 j j1 j2
        rw [hu 354 _ (z (by omega) (by omega))]
        exact this, fun k => (z5 k).trans plN_wn⟩
  · rw [e5] at g3
    rw [e56 i g1 (by omega), e56 j (by omega) g3, e18]
    exact h6 i j g1 g2 g3
/-- the relation, whatever is found where nobody knew -/
def hTz (c k : Int) : Int × Int := if c = 275 ∧ (k = 5 ∨ k = 6 ∨ k = 118) then (1, 0) else hTy c k
def hT8 (c k : Int) : Int × Int := if (c = 275 ∧ (k = 9 ∨ k = 88 ∨ k = 95)) ∨ c = 281 then hTy c k else (1, 0)
theorem e_Has.z {u : eW} (h : e_Has hTz u) (h5 : 0 ≤ u 275 5 ∧ u 275 5 ≤ 2000) (h6 : 0 ≤ u 275 6 ∧ u 275 6 ≤ 1) (h118 : 0 ≤ u 275 118 ∧ u 275 118 ≤ 60) : e_Has hTy u := fun c k hl => by
  by_cases q : c = 275 ∧ (k = 5 ∨ k = 6 ∨ k = 118)
  · obtain ⟨rfl, rfl | rfl | rfl⟩ := q
    · exact h5
    · exact h6
    · exact h118
  · have e : hTz c k = hTy c k := if_neg q
    rw [← e] at hl ⊢
    exact h c k hl
theorem e_Has.t8 {w : eW} (h : e_Has hTy w) : e_Has hT8 w := fun c k hl => by
  by_cases q : (c = 275 ∧ (k = 9 ∨ k = 88 ∨ k = 95)) ∨ c = 281
  · have e : hT8 c k = hTy c k := if_pos q
    rw [e] at hl ⊢
    exact h c k hl
  · have e : hT8 c k = (1, 0) := if_neg q
    rw [e] at hl
    exact absurd hl (by decide)
theorem e_Has.t8fr {S : Int → Int → Prop} {w w' : eW} (h : e_Has hT8 w) (f : e_fr S w w') (hS : ∀ c k, ((c = 275 ∧ (k = 9 ∨ k = 88 ∨ k = 95)) ∨ c = 281) → ¬ S c k) : e_Has hT8 w' := fun c k hl => by
  by_cases q : (c = 275 ∧ (k = 9 ∨ k = 88 ∨ k = 95)) ∨ c = 281
  · rw [f c k (hS c k q)]
    exact h c k hl
  · have e : hT8 c k = (1, 0) := if_neg q
    rw [e] at hl
    exact absurd hl (by decide)
def mRelF (w : eW) : Prop := (∀ u, mor w u → e_Has hTz u → mRel u) ∧ e_Has hT8 w
theorem bkI.F {w : eW} {G : Int → Gh} {S : Int → Int → Int} (h : bkI w G S) (hT : e_Has mTy w) (h3 : w 275 3 = 1) (h8 : e_Has hT8 w) : mRelF w := ⟨fun u hu hH => by
  have z : ∀ {x : Int}, -2147483648 ≤ x → x ≤ 2147483647 → inZ x := fun a b => ⟨a, b⟩
  have e3 : u 275 3 = w 275 3 := hu _ _ (z (by omega) (by omega))
  have h6 := h.2.2.2.2.2.2.2.1
  have e6 : u 275 6 = w 275 6 := hu _ _ (z (by omega) (by omega))
  have h9 := h.2.2.2.2.2.2.2.2
  have h7 := h.2.2.2.2.2.2.1
  have e5 : u 275 5 = w 275 5 := hu _ _ (z (by omega) (by omega))
  have e118 : u 275 118 = w 275 118 := hu _ _ (z (by omega) (by omega))
  exact ⟨hT.low (mor.K hT hu), hH.z (by omega) (by omega) (by omega), ⟨e6.trans h6, fun g => by omega⟩, Or.inr ⟨e3.trans h3, G, S, h.res hT hu⟩⟩, h8⟩
theorem mRel.F {w : eW} (h : mRel w) : mRelF w := by
  obtain ⟨h1, h2, h3, h4⟩ := id h
  rcases h4 with ⟨g0, G, g⟩ | ⟨g0, G, S, g⟩
  · refine ⟨fun u hu hH => ?_, h2.t8⟩
    have z : ∀ {x : Int}, -2147483648 ≤ x → x ≤ 2147483647 → inZ x := fun a b => ⟨a, b⟩
    have hK := mor.K h1 hu
    have h35 := h3.2 g0
    have h36 := h3.1
    have e3 : u 275 3 = w 275 3 := hu _ _ (z (by omega) (by omega))
    have e5 : u 275 5 = w 275 5 := hu _ _ (z (by omega) (by omega))
    have e6 : u 275 6 = w 275 6 := hu _ _ (z (by omega) (by omega))
    have hT := h1.low hK
    have q118 := e_Has.get h2 (c := 275) (k := 118) (lo := 0) (hi := 60) rfl (by decide)
    have e118 : u 275 118 = w 275 118 := hu _ _ (z (by omega) (by omega))
    have hF : e_fr (fun c k => ¬ K0 c k) w u := fun c k q => hK c k (Classical.not_not.mp q)
    exact ⟨hT, hH.z (by omega) (by omega) (by omega), ⟨e6.trans h36, fun _ => e5.trans h35⟩, Or.inl ⟨e3.trans g0, G, g.1.cfg hF hT (fun c k q => ⟨fun e => q (by rw [e]; exact K0_now k), K0_cf q⟩), g.2⟩⟩
  · exact g.F h1 g0 h2.t8
end
end
-- part bu
section
noncomputable section
/-! what the model keeps from call to call: what is written into the book -/
theorem opS.sm {w w' : eW} {G : Int → Gh} {x a b c : Int} {s : Int → Int} (h : opS w w' G x a b c s) (h6 : w 275 6 = 0) : sm3 w w' := by
  obtain ⟨-, -, wm, m1, -, m3⟩ := h
  rcases m3 with ⟨m3, -⟩ | ⟨-, m3⟩
  · omega
  · have f := m3.2.2.1
    have e : ∀ k, k = 3 ∨ k = 9 ∨ k = 10 → w' 275 k = w 275 k := fun k q => (f 275 k (by unfold mWr mKw mSo; omega)).trans (m1 275 k (by unfold mTi; omega))
    exact ⟨e 3 (by omega), e 9 (by omega), e 10 (by omega)⟩
theorem mRel.base {w : eW} (h : mRel w) : ∃ G, mInv w G ∧ bkE w ∧ w 276 5 ≤ 7000000 ∧ (w 275 3 = 0 ∨ ∃ S, bkI w G S) := by
  obtain ⟨h1, h2, h3, h4⟩ := h
  rcases h4 with ⟨g0, G, g⟩ | ⟨g0, G, S, g⟩
  · have h5 := h3.2 g0
    have hq : qtB w := g.1.2.2.2.2.2.2.2
    have hq0 := hq.1
    exact ⟨G, g.1.inv, ⟨by omega, Or.inl h3.1, fun y => by omega⟩, by omega, Or.inl g0⟩
  · have hI := g.inv
    have q := (g.2.1 (w 275 5) g.2.2.2.2.2.2.2.2.1 (Int.le_refl _)).2.1
    rw [← g.1, ← g.1] at q
    have t := e_Has.get h1 (c := 276) (k := 0) (lo := 0) (hi := 6000) rfl (by decide)
    have h9 := g.2.2.2.2.2.2.2.2
    exact ⟨G, hI, g.bk, by omega, Or.inr ⟨S, g⟩⟩
theorem mRel.op {w w' : eW} {G : Int → Gh} {x a b c : Int} {s : Int → Int} {C N : Prop} (h : mRel w) (hb : w 275 3 = 0 ∨ ∃ S, bkI w G S) (q : (w = w' ∧ N) ∨ (C ∧ ¬ mBk w ∧ opS w w' G x a b c s ∧ evG w w')) (ho : ∀ k, (k < 0 ∨ 33060 ≤ k) → w' 276 k = w 276 k) (hC : C → w 275 3 = 1 ∧ rowC w x a b c) (hs : ∀ k, s k = rowF w x a b c k) (g1 : -2147483648 ≤ a ∧ a ≤ 2147483647) (g2 : -2147483648 ≤ b ∧ b ≤ 2147483647) (g3 : -2147483648 ≤ c ∧ c ≤ 2147483647) : mRelF w' ∧ sm3 w w' := by
  rcases q with ⟨rfl, -⟩ | ⟨q1, q2, q3, q4⟩
  · exact ⟨h.F, rfl, rfl, rfl⟩
  · obtain ⟨r1, r2⟩ := hC q1
    have hsm := q3.sm h.2.2.1.1
    rcases hb with hb | ⟨S, hb⟩
    · omega
    · obtain ⟨S', k⟩ := hb.op q3 q4 q2 r2 hs g1 g2 g3 ho
      have q8 : e_Has hT8 w' := by
        obtain ⟨-, -, wm, m1, -, m3⟩ := q3
        rcases m3 with ⟨m3, -⟩ | ⟨-, m3⟩
        · have := h.2.2.1.1
          omega
        · exact (h.2.1.t8.t8fr m1 (fun c k y => by unfold mTi; omega)).t8fr m3.2.2.1 (fun c k y => by unfold mWr mKw mSo; omega)
      exact ⟨k.F q3.2.1.1 (hsm.1.trans r1) q8, hsm⟩
theorem m_425 {d : Nat} (hd : 27 ≤ d) {w : eW} (h : mRel w) {p1 p2 : Int} (g1 : -2147483648 ≤ p1 ∧ p1 ≤ 2147483647) (g2 : -2147483648 ≤ p2 ∧ p2 ≤ 2147483647) : e_Ok 20 elay ecode eI d 425 (0, [(0, (1, 275)), (1, (0, p1)), (2, (0, p2))], [], w) (fun r w' => ∃ z : Int, r = [(0, z)] ∧ mRelF w' ∧ sm3 w w') := by
  obtain ⟨G, hI, hB, hE, hb⟩ := h.base
  refine (e_Ok.outN (c_425 hd hI hB hE g1 g2)).imp (fun r w' q => ?_)
  obtain ⟨⟨z, hr, q⟩, ho⟩ := q
  exact ⟨z, hr, h.op hb q ho (fun hq => ⟨hq.1.2.2.2.2, ⟨by decide, fun _ => hq, fun e => absurd e (by decide), fun e => absurd e (by decide), fun e => absurd e (by decide), fun e => absurd e (by decide), fun e => absurd e (by decide), fun e => absurd e (by decide), fun e => absurd e (by decide), fun e => absurd e (by decide), fun e => absurd e (by decide), fun e => absurd e (by decide)⟩⟩) (fun k => rfl) g1 g2 (by decide)⟩
theorem m_426 {d : Nat} (hd : 45 ≤ d) {w : eW} (h : mRel w) {p1 : Int} (g1 : -2147483648 ≤ p1 ∧ p1 ≤ 2147483647) : e_Ok 20 elay ecode eI d 426 (0, [(0, (1, 275)), (1, (0, p1))], [], w) (fun r w' => ∃ z : Int, r = [(0, z)] ∧ mRelF w' ∧ sm3 w w') := by
  obtain ⟨G, hI, hB, hE, hb⟩ := h.base
  refine (e_Ok.outN (c_426 hd hI hB hE g1)).imp (fun r w' q => ?_)
  obtain ⟨⟨z, hr, q⟩, ho⟩ := q
  exact ⟨z, hr, h.op hb q ho (fun hq => ⟨hq.2.2.1, ⟨by decide, fun e => absurd e (by decide), fun _ => hq, fun e => absurd e (by decide), fun e => absurd e (by decide), fun e => absurd e (by decide), fun e => absurd e (by decide), fun e => absurd e (by decide), fun e => absurd e (by decide), fun e => absurd e (by decide), fun e => absurd e (by decide), fun e => absurd e (by decide)⟩⟩) (fun k => rfl) g1 (by decide) (by decide)⟩
theorem m_427 {d : Nat} (hd : 25 ≤ d) {w : eW} (h : mRel w) {p1 p2 : Int} (g1 : -2147483648 ≤ p1 ∧ p1 ≤ 2147483647) (g2 : -2147483648 ≤ p2 ∧ p2 ≤ 2147483647) : e_Ok 20 elay ecode eI d 427 (0, [(0, (1, 275)), (1, (0, p1)), (2, (0, p2))], [], w) (fun r w' => ∃ z : Int, r = [(0, z)] ∧ mRelF w' ∧ sm3 w w') := by
  obtain ⟨G, hI, hB, hE, hb⟩ := h.base
  refine (e_Ok.outN (c_427 hd hI hB hE g1 g2)).imp (fun r w' q => ?_)
  obtain ⟨⟨z, hr, q⟩, ho⟩ := q
  exact ⟨z, hr, h.op hb q ho (fun hq => ⟨hq.2.2, ⟨by decide, fun e => absurd e (by decide), fun e => absurd e (by decide), fun _ => hq, fun e => absurd e (by decide), fun e => absurd e (by decide), fun e => absurd e (by decide), fun e => absurd e (by decide), fun e => absurd e (by decide), fun e => absurd e (by decide), fun e => absurd e (by decide), fun e => absurd e (by decide)⟩⟩) (fun k => rfl) g1 g2 (by decide)⟩
theorem m_428 {d : Nat} (hd : 27 ≤ d) {w : eW} (h : mRel w) {p1 p2 p3 : Int} (g1 : -2147483648 ≤ p1 ∧ p1 ≤ 2147483647) (g2 : -2147483648 ≤ p2 ∧ p2 ≤ 2147483647) (g3 : -2147483648 ≤ p3 ∧ p3 ≤ 2147483647) (hz3 : 0 ≤ p3 ∧ p3 ≤ 1) : e_Ok 20 elay ecode eI d 428 (0, [(0, (1, 275)), (1, (0, p1)), (2, (0, p2)), (3, (0, p3))], [], w) (fun r w' => ∃ z : Int, r = [(0, z)] ∧ mRelF w' ∧ sm3 w w') := by
  obtain ⟨G, hI, hB, hE, hb⟩ := h.base
  refine (e_Ok.outN (c_428 hd hI hB hE g1 g2 g3 hz3)).imp (fun r w' q => ?_)
  obtain ⟨⟨z, hr, q⟩, ho⟩ := q
  exact ⟨z, hr, h.op hb q ho (fun hq => ⟨hq.2.2, ⟨by decide, fun e => absurd e (by decide), fun e => absurd e (by decide), fun e => absurd e (by decide), fun _ => ⟨hq, hz3⟩, fun e => absurd e (by decide), fun e => absurd e (by decide), fun e => absurd e (by decide), fun e => absurd e (by decide), fun e => absurd e (by decide), fun e => absurd e (by decide), fun e => absurd e (by decide)⟩⟩) (fun k => rfl) g1 g2 g3⟩
theorem m_429 {d : Nat} (hd : 25 ≤ d) {w : eW} (h : mRel w) {p1 p2 p3 : Int} (g1 : -2147483648 ≤ p1 ∧ p1 ≤ 2147483647) (g2 : -2147483648 ≤ p2 ∧ p2 ≤ 2147483647) (g3 : -2147483648 ≤ p3 ∧ p3 ≤ 2147483647) (hz2 : 0 ≤ p2 ∧ p2 ≤ 1) (hz3 : 0 ≤ p3 ∧ p3 ≤ 1) : e_Ok 20 elay ecode eI d 429 (0, [(0, (1, 275)), (1, (0, p1)), (2, (0, p2)), (3, (0, p3))], [], w) (fun r w' => ∃ z : Int, r = [(0, z)] ∧ mRelF w' ∧ sm3 w w') := by
  obtain ⟨G, hI, hB, hE, hb⟩ := h.base
  refine (e_Ok.outN (c_429 hd hI hB hE g1 g2 g3 hz2 hz3)).imp (fun r w' q => ?_)
  obtain ⟨⟨z, hr, q⟩, ho⟩ := q
  exact ⟨z, hr, h.op hb q ho (fun hq => ⟨hq.2.2, ⟨by decide, fun e => absurd e (by decide), fun e => absurd e (by decide), fun e => absurd e (by decide), fun e => absurd e (by decide), fun _ => ⟨hq, hz2, hz3⟩, fun e => absurd e (by decide), fun e => absurd e (by decide), fun e => absurd e (by decide), fun e => absurd e (by decide), fun e => absurd e (by decide), fun e => absurd e (by decide)⟩⟩) (fun k => rfl) g1 g2 g3⟩
theorem m_430 {d : Nat} (hd : 27 ≤ d) {w : eW} (h : mRel w) {p1 : Int} (g1 : -2147483648 ≤ p1 ∧ p1 ≤ 2147483647) : e_Ok 20 elay ecode eI d 430 (0, [(0, (1, 275)), (1, (0, p1))], [], w) (fun r w' => ∃ z : Int, r = [(0, z)] ∧ mRelF w' ∧ sm3 w w') := by
  obtain ⟨G, hI, hB, hE, hb⟩ := h.base
  refine (e_Ok.outN (c_430 hd hI hB hE g1)).imp (fun r w' q => ?_)
  obtain ⟨⟨z, hr, q⟩, ho⟩ := q
  exact ⟨z, hr, h.op hb q ho (fun hq => ⟨hq.1.2.1, ⟨by decide, fun e => absurd e (by decide), fun e => absurd e (by decide), fun e => absurd e (by decide), fun e => absurd e (by decide), fun e => absurd e (by decide), fun _ => hq, fun e => absurd e (by decide), fun e => absurd e (by decide), fun e => absurd e (by decide), fun e => absurd e (by decide), fun e => absurd e (by decide)⟩⟩) (fun k => rfl) g1 (by decide) (by decide)⟩
theorem m_431 {d : Nat} (hd : 27 ≤ d) {w : eW} (h : mRel w) {p1 : Int} (g1 : -2147483648 ≤ p1 ∧ p1 ≤ 2147483647) : e_Ok 20 elay ecode eI d 431 (0, [(0, (1, 275)), (1, (0, p1))], [], w) (fun r w' => ∃ z : Int, r = [(0, z)] ∧ mRelF w' ∧ sm3 w w') := by
  obtain ⟨G, hI, hB, hE, hb⟩ := h.base
  refine (e_Ok.outN (c_431 hd hI hB hE g1)).imp (fun r w' q => ?_)
  obtain ⟨⟨z, hr, q⟩, ho⟩ := q
  exact ⟨z, hr, h.op hb q ho (fun hq => ⟨hq.2.1, ⟨by decide, fun e => absurd e (by decide), fun e => absurd e (by decide), fun e => absurd e (by decide), fun e => absurd e (by decide), fun e => absurd e (by decide), fun e => absurd e (by decide), fun _ => hq, fun e => absurd e (by decide), fun e => absurd e (by decide), fun e => absurd e (by decide), fun e => absurd e (by decide)⟩⟩) (fun k => rfl) g1 (by decide) (by decide)⟩
theorem m_432 {d : Nat} (hd : 25 ≤ d) {w : eW} (h : mRel w) {p1 : Int} (g1 : -2147483648 ≤ p1 ∧ p1 ≤ 2147483647) : e_Ok 20 elay ecode eI d 432 (0, [(0, (1, 275)), (1, (0, p1))], [], w) (fun r w' => ∃ z : Int, r = [(0, z)] ∧ mRelF w' ∧ sm3 w w') := by
  obtain ⟨G, hI, hB, hE, hb⟩ := h.base
  refine (e_Ok.outN (c_432 hd hI hB hE g1)).imp (fun r w' q => ?_)
  obtain ⟨⟨z, hr, q⟩, ho⟩ := q
  exact ⟨z, hr, h.op hb q ho (fun hq => ⟨hq.2.2.1, ⟨by decide, fun e => absurd e (by decide), fun e => absurd e (by decide), fun e => absurd e (by decide), fun e => absurd e (by decide), fun e => absurd e (by decide), fun e => absurd e (by decide), fun e => absurd e (by decide), fun _ => hq, fun e => absurd e (by decide), fun e => absurd e (by decide), fun e => absurd e (by decide)⟩⟩) (fun k => rfl) g1 (by decide) (by decide)⟩
theorem m_433 {d : Nat} (hd : 27 ≤ d) {w : eW} (h : mRel w) {p1 p2 p3 : Int} (g1 : -2147483648 ≤ p1 ∧ p1 ≤ 2147483647) (g2 : -2147483648 ≤ p2 ∧ p2 ≤ 2147483647) (g3 : -2147483648 ≤ p3 ∧ p3 ≤ 2147483647) : e_Ok 20 elay ecode eI d 433 (0, [(0, (1, 275)), (1, (0, p1)), (2, (0, p2)), (3, (0, p3))], [], w) (fun r w' => ∃ z : Int, r = [(0, z)] ∧ mRelF w' ∧ sm3 w w') := by
  obtain ⟨G, hI, hB, hE, hb⟩ := h.base
  refine (e_Ok.outN (c_433 hd hI hB hE g1 g2 g3)).imp (fun r w' q => ?_)
  obtain ⟨⟨z, hr, q⟩, ho⟩ := q
  exact ⟨z, hr, h.op hb q ho (fun hq => ⟨hq.2.2.1, ⟨by decide, fun e => absurd e (by decide), fun e => absurd e (by decide), fun e => absurd e (by decide), fun e => absurd e (by decide), fun e => absurd e (by decide), fun e => absurd e (by decide), fun e => absurd e (by decide), fun e => absurd e (by decide), fun _ => hq, fun e => absurd e (by decide), fun e => absurd e (by decide)⟩⟩) (fun k => rfl) g1 g2 g3⟩
theorem m_434 {d : Nat} (hd : 25 ≤ d) {w : eW} (h : mRel w) {p1 p2 : Int} (g1 : -2147483648 ≤ p1 ∧ p1 ≤ 2147483647) (g2 : -2147483648 ≤ p2 ∧ p2 ≤ 2147483647) : e_Ok 20 elay ecode eI d 434 (0, [(0, (1, 275)), (1, (0, p1)), (2, (0, p2))], [], w) (fun r w' => ∃ z : Int, r = [(0, z)] ∧ mRelF w' ∧ sm3 w w') := by
  obtain ⟨G, hI, hB, hE, hb⟩ := h.base
  refine (e_Ok.outN (c_434 hd hI hB hE g1 g2)).imp (fun r w' q => ?_)
  obtain ⟨⟨z, hr, q⟩, ho⟩ := q
  exact ⟨z, hr, h.op hb q ho (fun hq => ⟨hq.2.2, ⟨by decide, fun e => absurd e (by decide), fun e => absurd e (by decide), fun e => absurd e (by decide), fun e => absurd e (by decide), fun e => absurd e (by decide), fun e => absurd e (by decide), fun e => absurd e (by decide), fun e => absurd e (by decide), fun e => absurd e (by decide), fun _ => hq, fun e => absurd e (by decide)⟩⟩) (fun k => rfl) g1 g2 (by decide)⟩
theorem m_419 {d : Nat} (hd : 27 ≤ d) {w : eW} (h : mRel w) {p1 : Int} (g1 : -2147483648 ≤ p1 ∧ p1 ≤ 2147483647) : e_Ok 20 elay ecode eI d 419 (0, [(0, (1, 275)), (1, (0, p1))], [], w) (fun r w' => ∃ z : Int, r = [(0, z)] ∧ mRelF w' ∧ sm3 w w') := by
  obtain ⟨G, hI, hB, hE, hb⟩ := h.base
  refine (e_Ok.outN (c_419 hd hI hB hE g1)).imp (fun r w' q => ?_)
  obtain ⟨⟨z, hr, q⟩, ho⟩ := q
  exact ⟨z, hr, h.op hb q ho (fun hq => ⟨hq.2.1, ⟨by decide, fun e => absurd e (by decide), fun e => absurd e (by decide), fun e => absurd e (by decide), fun e => absurd e (by decide), fun e => absurd e (by decide), fun e => absurd e (by decide), fun e => absurd e (by decide), fun e => absurd e (by decide), fun e => absurd e (by decide), fun e => absurd e (by decide), fun _ => hq⟩⟩) (fun k => rfl) g1 (by decide) (by decide)⟩
end
end
