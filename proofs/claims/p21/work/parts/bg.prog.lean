noncomputable section
/-! a text that was read without a fault gives a program that can be carried out -/
def anR (w : eW) (nt r q : Int) : Prop := (r < 3 * nt ∧ anc w r q) ∨ r = q
def enN (w : eW) (n r : Int) : Int := if r < 0 then n else enR w r
def brF (w : eW) (nw r v : Int) : Prop := (0 ≤ v ∧ v < nw) ∧ anc w r (w 335 (v + 3600)) ∧ ∀ q, anc w r q → anc w q (w 335 (v + 3600)) → q ≠ w 335 (v + 3600) → w 334 (q / 3 + 3600) ≤ w 336 (v + 3600)
/-- all is read: nothing is open, nothing is asked of the next place -/
def GT (w : eW) (N n mm nt nw : Int) : Prop := GZ w N n mm nt nw (fun _ => False) (-1) (fun _ => False) 0
/-- the program of the arm a is the one that was read; names are known by their numbers -/
def cpy (w w2 : eW) (a n : Int) : Prop := (∀ p, 0 ≤ p → p < n → w2 328 (10000 * a + p) = w 328 (p + 40000) ∧ w2 330 (10000 * a + p) = w 330 (p + 40000)) ∧ (∀ c t, 331 ≤ c → c ≤ 336 → 0 ≤ t → t < 900 → w2 c (900 * a + t) = w c (t + 3600))
def cpyA (w w2 : eW) (a n : Int) : Prop := ∀ p, 0 ≤ p → p < n →
  (w 328 (p + 40000) = 2 ∨ w 328 (p + 40000) = 31 → 0 ≤ w2 329 (10000 * a + p) ∧ w2 329 (10000 * a + p) ≤ 31) ∧ (w 328 (p + 40000) = 38 ∨ w 328 (p + 40000) = 39 ∨ w 328 (p + 40000) = 44 → 0 ≤ w2 329 (10000 * a + p) ∧ w2 329 (10000 * a + p) < w2 338 a) ∧
  (¬ (w 328 (p + 40000) = 2 ∨ w 328 (p + 40000) = 31 ∨ w 328 (p + 40000) = 38 ∨ w 328 (p + 40000) = 39 ∨ w 328 (p + 40000) = 44) → w2 329 (10000 * a + p) = w 329 (p + 40000))
theorem nxD_1 {o d : Int} (h : o = 1 ∨ o = 2 ∨ o = 5 ∨ o = 6 ∨ o = 7 ∨ o = 8) : nxD o d = d + 1 := by unfold nxD; rw [if_pos h]
theorem nxD_m {o d : Int} (h : (10 ≤ o ∧ o ≤ 20) ∨ o = 22 ∨ o = 23) : nxD o d = d - 1 := by unfold nxD; rw [if_neg (by omega), if_neg (by omega), if_pos h]
theorem nxD_s {o d : Int} (h : o = 3 ∨ o = 4 ∨ o = 9 ∨ o = 21 ∨ o = 24) : nxD o d = d := by unfold nxD; rw [if_neg (by omega), if_neg (by omega), if_neg (by omega)]
theorem sgO_01 (o : Int) : sgO o = 0 ∨ sgO o = 1 := by
  unfold sgO
  by_cases c : o < 30 ∨ (31 ≤ o ∧ o ≤ 44) ∨ o = 47
  · rw [if_pos c]; exact Or.inr rfl
  · rw [if_neg c]; exact Or.inl rfl
section
variable {w w2 : eW} {N a n mm nt nw : Int}
theorem GT.last (h : GT w N n mm nt nw) {p : Int} (h1 : 0 ≤ p) (h2 : p < n) (ho : w 328 (p + 40000) < 30 ∨ w 328 (p + 40000) = 30 ∨ (31 ≤ w 328 (p + 40000) ∧ w 328 (p + 40000) ≤ 44) ∨ w 328 (p + 40000) = 47) : p + 1 < n := by
  by_cases c : p + 1 = n
  · exfalso
    have hR := (h.1.2.1 p h1 h2).1
    have ra := (h.2.2 30 (3 * nt + 1) p h1 h2).1 c
    have rb := (h.2.2 1 (3 * nt + 1) p h1 h2).1 c
    rcases ho with ho | ho | ho
    · exact absurd (ra.1 ho).1 (by decide)
    · rcases ra.2.2 ho with g | ⟨t, t1, t2, t3, t4⟩
      · omega
      · omega
    · exact absurd (rb.2.1 ho).1 (by decide)
  · omega
theorem GT.goes (h : GT w N n mm nt nw) {p : Int} (h1 : 0 ≤ p) (h2 : p < n) (ho : iJp (w 328 (p + 40000))) : w 329 (p + 40000) ≠ n := fun c => by
  have hR := (h.1.2.1 p h1 h2).1
  have ra := (h.2.2 30 (3 * nt + 1) p h1 h2).2 (fun z => z) c
  unfold iJp at ho
  rcases ho with ho | ho | ho | ho | ho
  · have := (ra.1 (Or.inl ho)).2.2; omega
  · have := (ra.1 (Or.inr ho)).2.2; omega
  · have := (ra.2.1 ho).2; omega
  · have := (ra.2.2 (Or.inl ho)).2.2; omega
  · have := (ra.2.2 (Or.inr ho)).2.2; omega
theorem GT.tg (h : GT w N n mm nt nw) (hc : cpy w w2 a n) {q r : Int} (g : tgS w n (-1) False q r) : tgt w2 a n (dp w) (fun p => sgO (w 328 (p + 40000))) q r := by
  obtain ⟨q1, q2, q3, q4⟩ := g
  have hq : q < n := by
    by_cases c : q = n
    · exact (q4 c).1.elim
    · omega
  exact ⟨q1.1, hq, q2, (q3 hq).1, by rw [(hc.1 q q1.1 hq).2]; exact (q3 hq).2⟩
theorem GT.clsT (_h : GT w N n mm nt nw) {t : Int} (ht : 0 ≤ t) : clsT w (-1) t := fun i k1 k2 g => by
  have := g.neg
  omega
set_option maxHeartbeats 1000000 in
theorem GT.ins (h : GT w N n mm nt nw) (hc : cpy w w2 a n) (hA : cpyA w w2 a n) (h4 : ∀ m, 0 ≤ m → m < mm → w 341 m ≠ 4) (hnt : nt ≤ 900) (hw : nw ≤ 900) {p : Int} (h1 : 0 ≤ p) (h2 : p < n) : insOk w2 a n nt nw (dp w) (fun p => sgO (w 328 (p + 40000))) (enN w n) (brF w nw) p := by
  obtain ⟨i1, i2, i3⟩ := h.1.1.1 p h1 h2
  obtain ⟨q1, q2, q3, q4⟩ := h.1.2.1 p h1 h2
  obtain ⟨a1, a2, a3⟩ := hA p h1 h2
  obtain ⟨i4, i5⟩ := i3 (fun z => z)
  have hd := dp_next w h1
  have e8 := (hc.1 p h1 h2).1
  have e0 := (hc.1 p h1 h2).2
  -- the next place
  have nx : ∀ (ho : w 328 (p + 40000) < 30 ∨ w 328 (p + 40000) = 30 ∨ (31 ≤ w 328 (p + 40000) ∧ w 328 (p + 40000) ≤ 44) ∨ w 328 (p + 40000) = 47), p + 1 < n ∧ w2 330 (10000 * a + p + 1) = w 330 (p + 1 + 40000) ∧ iNx w nt p (w 328 (p + 1 + 40000)) (w 330 (p + 1 + 40000)) := fun ho => by
    have hl := h.last h1 h2 ho
    exact ⟨hl, by rw [show 10000 * a + p + 1 = 10000 * a + (p + 1) by omega]; exact (hc.1 (p + 1) (by omega) hl).2, i2 hl⟩
  -- the place that is gone to
  have go : ∀ (ho : iJp (w 328 (p + 40000))), 0 ≤ w 329 (p + 40000) → w 329 (p + 40000) ≤ n → w 329 (p + 40000) < n ∧ w2 330 (10000 * a + w 329 (p + 40000)) = w 330 (w 329 (p + 40000) + 40000) ∧ iGo w p (w 329 (p + 40000)) (w 328 (w 329 (p + 40000) + 40000)) (w 330 (w 329 (p + 40000) + 40000)) := fun ho y1 y2 => by
    have hn := h.goes h1 h2 ho
    have y3 : w 329 (p + 40000) < n := by omega
    exact ⟨y3, (hc.1 _ y1 y3).2, i5 _ y1 y3⟩
  have hen : p < enN w n (w 330 (p + 40000)) := by
    unfold enN
    by_cases c : w 330 (p + 40000) < 0
    · rw [if_pos c]; exact h2
    · rw [if_neg c]
      refine q2.resolve_left (fun g => ?_)
      have := g.neg
      omega
  have ft : ∀ (ho : w 328 (p + 40000) < 30 ∨ (31 ≤ w 328 (p + 40000) ∧ w 328 (p + 40000) ≤ 44) ∨ w 328 (p + 40000) = 47), iFT w2 a n p := fun ho => by
    obtain ⟨z1, z2, z3, z4, -⟩ := nx (by omega)
    refine ⟨z1, ?_⟩
    rw [z2, e0]
    rcases ho with ho | ho
    · exact (z3 ho).2
    · exact (z4 ho).2
  have ss : ∀ (ho : (31 ≤ w 328 (p + 40000) ∧ w 328 (p + 40000) ≤ 44) ∨ w 328 (p + 40000) = 47), iS w2 a n (dp w) (fun p => sgO (w 328 (p + 40000))) p := fun ho => by
    obtain ⟨z1, z2, z3, z4, -⟩ := nx (by omega)
    exact ⟨ft (by omega), by rw [hd, nxD_no (by omega)], (z4 ho).1, sg_op ho⟩
  unfold insOk
  rw [e8, e0]
  clear i2 i3
  unfold iOw at i1
  obtain ⟨o1, o2, o3, o4, o5, o6, o7, o8⟩ := i1
  refine ⟨⟨o1, q1, o2, hen, sgO_01 _⟩, fun z => ⟨?_, ?_, ft (Or.inl z)⟩, fun z => ?_, fun z => a1 (Or.inl z), fun z => ⟨o3 (by clear hA a1 a2 a3 nx go ft ss o3 o4 o5 o6 o7 o8 q3 q4 i5; omega), ?_⟩, fun z => ?_, fun z => ⟨o4 z, ?_⟩, fun z => ?_, fun z => ss (Or.inl z), fun z => ⟨o5 (Or.inl z), a1 (Or.inr z)⟩, fun z => ?_, fun z => o5 (by clear hA a1 a2 a3 nx go ft ss o3 o4 o5 o6 o7 o8 q3 q4 i5; omega), fun z => ?_, o7, fun z => o8 (by clear hA a1 a2 a3 nx go ft ss o3 o4 o5 o6 o7 o8 q3 q4 i5; omega), fun z => a2 z, fun z => ?_, fun z => ?_, fun z => ?_, fun z => ?_⟩
  · show sgO _ = 1
    unfold sgO; rw [if_pos (Or.inl z)]
  · exact ((nx (Or.inl z)).2.2.1 z).1
  · rw [hd, nxD_1 z]
  · rw [hd, nxD_s z]
  · -- 22, 23
    have zj : iJp (w 328 (p + 40000)) := by unfold iJp; clear hA a1 a2 a3 nx go ft ss o3 o4 o5 o6 o7 o8 q3 q4 i5; omega
    have ea := a3 (by clear hA a1 a2 a3 nx go ft ss o3 o4 o5 o6 o7 o8 q3 q4 i5; omega)
    have zt := i4.1 (z.imp id Or.inl)
    obtain ⟨y1, y2, y3⟩ := go zj (by omega) zt.2
    obtain ⟨v1, v2, v3⟩ := (y3 rfl).1 z
    rw [ea]
    exact ⟨o3 (Or.inr (Or.inr (Or.inr (Or.inr (Or.inr z))))), by rw [hd, nxD_m (Or.inr z)], zt.1, y1, v1, v2, by rw [y2]; exact v3⟩
  · rw [hd, nxD_m (Or.inl z)]
  · -- 30
    have hd0 : dp w (p + 1) = 0 := by rw [hd, nxD_no (by rw [z]; decide)]
    obtain ⟨z1, z2, z3, z4, z5⟩ := nx (Or.inr (Or.inl z))
    refine ⟨o8 (Or.inl z), sg_no (Or.inl z), z1, hd0, ?_⟩
    rw [z2]
    refine (z5 z).imp id (fun ⟨t, t1, t2, t3, t4⟩ => ⟨t, t1, t2, t3, ?_⟩)
    rw [hc.2 331 t (by decide) (by decide) t1 (by omega)]
    exact t4
  · have ea := a3 (by clear hA a1 a2 a3 nx go ft ss o3 o4 o5 o6 o7 o8 q3 q4 i5; omega)
    rw [ea]
    exact o6 z
  · -- 34
    have zj : iJp (w 328 (p + 40000)) := by unfold iJp; clear hA a1 a2 a3 nx go ft ss o3 o4 o5 o6 o7 o8 q3 q4 i5; omega
    have ea := a3 (by clear hA a1 a2 a3 nx go ft ss o3 o4 o5 o6 o7 o8 q3 q4 i5; omega)
    have zt := i4.2.1 z
    obtain ⟨y1, y2, y3⟩ := go zj zt.1 (by omega)
    obtain ⟨v1, v2⟩ := (y3 rfl).2.1 z
    rw [ea]
    exact ⟨zt.1, y1, v1, by rw [y2]; exact v2⟩
  · -- 46
    have ea := a3 (by clear hA a1 a2 a3 nx go ft ss o3 o4 o5 o6 o7 o8 q3 q4 i5; omega)
    rw [ea]
    have hm : w 329 (p + 40000) ≠ -1 := fun c => by
      rcases (h.1.1.2.2 p h1 h2).2.2 z with g | ⟨m, m1, m2, m3⟩
      · omega
      · exact h4 m m1 m2 m3
    obtain ⟨r1, r2, r3⟩ := (q3 z).resolve_left hm
    obtain ⟨b1, b2⟩ := r3.resolve_left (fun g => g)
    refine ⟨r1.1, r1.2, ⟨r1, r2, fun q g1 g2 g3 => (b2 q g1 g2 g3).2⟩, ?_⟩
    rw [hc.2 336 _ (by decide) (by decide) r1.1 (by omega)]
    exact b1
  · -- 47
    have zj : iJp (w 328 (p + 40000)) := by unfold iJp; clear hA a1 a2 a3 nx go ft ss o3 o4 o5 o6 o7 o8 q3 q4 i5; omega
    have ea := a3 (by clear hA a1 a2 a3 nx go ft ss o3 o4 o5 o6 o7 o8 q3 q4 i5; omega)
    have zt := i4.1 (Or.inr (Or.inr z))
    obtain ⟨y1, y2, y3⟩ := go zj (by omega) zt.2
    obtain ⟨v1, v2, v3⟩ := (y3 rfl).2.2 (Or.inl z)
    rw [ea]
    exact ⟨ss (Or.inr z), zt.1, y1, v1, v2, by rw [y2]; exact v3⟩
  · -- 48
    have zj : iJp (w 328 (p + 40000)) := by unfold iJp; clear hA a1 a2 a3 nx go ft ss o3 o4 o5 o6 o7 o8 q3 q4 i5; omega
    have ea := a3 (by clear hA a1 a2 a3 nx go ft ss o3 o4 o5 o6 o7 o8 q3 q4 i5; omega)
    have zt := i4.2.2 z
    have zr : 0 ≤ w 329 (p + 40000) ∧ w 329 (p + 40000) ≤ n := by
      rcases zt with zt | ⟨zt1, zt2, -⟩
      · omega
      · omega
    obtain ⟨y1, y2, y3⟩ := go zj zr.1 zr.2
    obtain ⟨v1, v2, v3⟩ := (y3 rfl).2.2 (Or.inr z)
    rw [ea]
    refine ⟨sg_no (by clear hA a1 a2 a3 nx go ft ss o3 o4 o5 o6 o7 o8 q3 q4 i5; omega), zr.1, y1, v1, v2, by rw [y2]; exact v3, ?_⟩
    refine zt.imp (fun g => g.1) (fun g => ?_)
    rw [(hc.1 _ zr.1 y1).1]
    exact g.2.2
  · -- 49, 50, 51
    have ea := a3 (by clear hA a1 a2 a3 nx go ft ss o3 o4 o5 o6 o7 o8 q3 q4 i5; omega)
    obtain ⟨r1, r2⟩ := q4 (by clear hA a1 a2 a3 nx go ft ss o3 o4 o5 o6 o7 o8 q3 q4 i5; omega)
    rw [ea]
    exact ⟨sg_no (by clear hA a1 a2 a3 nx go ft ss o3 o4 o5 o6 o7 o8 q3 q4 i5; omega), r1.1, r1.2, r2⟩
theorem GT.try (h : GT w N n mm nt nw) (hc : cpy w w2 a n) (hnt : nt ≤ 900) {t : Int} (h1 : 0 ≤ t) (h2 : t < nt) : tryOk w2 a n (dp w) (fun p => sgO (w 328 (p + 40000))) (piR w) (enN w n) (anR w nt) t := by
  obtain ⟨q1, q2, q3, q4, q5⟩ := h.1.2.2.1 t h1 h2
  obtain ⟨r1, r2, r3⟩ := q5 (h.clsT h1)
  have hti := h.1.ti
  have x : ∀ c, 331 ≤ c → c ≤ 336 → w2 c (900 * a + t) = w c (t + 3600) := fun c c1 c2 => hc.2 c t c1 c2 h1 (by omega)
  have p0 := piR_step (r := 3 * t) hti (by omega) (by omega)
  have p1 := piR_step (r := 3 * t + 1) hti (by omega) (by omega)
  have p2 := piR_step (r := 3 * t + 2) hti (by omega) (by omega)
  rw [show 3 * t / 3 = t by omega, if_neg (by omega)] at p0
  rw [show (3 * t + 1) / 3 = t by omega, if_neg (by omega)] at p1
  rw [show (3 * t + 2) / 3 = t by omega, if_pos (by omega)] at p2
  have n0 : enN w n (3 * t) = enR w (3 * t) := by unfold enN; rw [if_neg (by omega)]
  have n1 : enN w n (3 * t + 1) = enR w (3 * t + 1) := by unfold enN; rw [if_neg (by omega)]
  have n2 : enN w n (3 * t + 2) = enR w (3 * t + 2) := by unfold enN; rw [if_neg (by omega)]
  rw [enR_0] at n0
  rw [enR_1] at n1
  rw [enR_2] at n2
  unfold tryOk
  rw [x 331 (by decide) (by decide), x 332 (by decide) (by decide), x 333 (by decide) (by decide), x 334 (by decide) (by decide)]
  refine ⟨q1, ⟨by omega, by omega, by omega⟩, ?_, ?_, ⟨h.tg hc r1, ?_, ?_, ?_, ?_⟩, fun i q k1 k2 g => ?_, fun i q k1 k2 g => ?_⟩
  · by_cases c : w 332 (t + 3600) < 0
    · exact Or.inl c
    · right
      refine ⟨h.tg hc (q2.resolve_left c), ?_⟩
      rw [n0, if_pos (by omega)]
      exact Int.le_refl _
  · by_cases c : w 333 (t + 3600) < 0
    · exact Or.inl c
    · right
      refine ⟨h.tg hc (q3.resolve_left c), ?_, ?_⟩
      · rw [n0]
        by_cases c2 : 0 ≤ w 332 (t + 3600)
        · rw [if_pos c2]; omega
        · rw [if_neg c2, if_pos (by omega)]; exact Int.le_refl _
      · rw [n1, if_pos (by omega)]; exact Int.le_refl _
  · rw [n0]
    by_cases c2 : 0 ≤ w 332 (t + 3600)
    · rw [if_pos c2]; exact r2.1
    · rw [if_neg c2]
      by_cases c3 : 0 ≤ w 333 (t + 3600)
      · rw [if_pos c3]; exact r2.2
      · rw [if_neg c3]; exact Int.le_refl _
  · rw [n1]
    by_cases c3 : 0 ≤ w 333 (t + 3600)
    · rw [if_pos c3]; exact r2.2
    · rw [if_neg c3]; exact Int.le_refl _
  · rw [n2]; exact Int.le_refl _
  · unfold enN
    by_cases c : w 331 (t + 3600) < 0
    · rw [if_pos c]; exact r1.1.2
    · rw [if_neg c]
      refine r3.resolve_left (fun g => ?_)
      have := g.neg
      omega
  · rcases g with ⟨g1, g2⟩ | g
    · exact ((anc.of3 h1 k1 k2).1 g2).imp id (fun z => Or.inl ⟨by omega, z⟩)
    · exact Or.inl g.symm
  · rcases g with ⟨g1, g2⟩ | g
    · exact Or.inl ⟨by omega, (anc.of3 h1 k1 k2).2 (Or.inr g2)⟩
    · exact Or.inl ⟨by omega, (anc.of3 h1 k1 k2).2 (Or.inr (by rw [g]; exact anc.refl w q))⟩
theorem GT.cOk (h : GT w N n mm nt nw) (hc : cpy w w2 a n) (hA : cpyA w w2 a n) (h4 : ∀ m, 0 ≤ m → m < mm → w 341 m ≠ 4) (hn : n ≤ 10000) (hnt : nt ≤ 900) (hw : nw ≤ 900) (hr : ∀ q, 0 ≤ q → q < w2 338 a → tgS w n (-1) False (w2 337 (32 * a + q)) (-1)) : cOk w2 a n nt nw (dp w) (fun p => sgO (w 328 (p + 40000))) (piR w) (enN w n) (anR w nt) (brF w nw) := by
  have hti := h.1.ti
  have h6 := h.1.2.2.2.2.2.1
  refine ⟨⟨h6.2.1, hn, h6.2.2.1, hnt, h6.2.2.2.1, hw⟩, fun p p1 p2 => h.ins hc hA h4 hnt hw p1 p2, fun t t1 t2 => h.try hc hnt t1 t2, ⟨piR_neg w, fun r r1 r2 => ⟨piR_nn w r, h.1.2.2.2.2.2.2.1.1 r r1 r2⟩, fun r => Or.inr rfl, fun q g => ?_, fun r q g r1 => ?_, fun r q g r1 r2 => ?_⟩, fun v v1 v2 => ?_, fun r v g r1 r2 => ?_, fun q q1 q2 => h.tg hc (hr q q1 q2)⟩
  · rcases g with ⟨g1, g2⟩ | g
    · exact g2.neg
    · exact g.symm
  · rcases g with ⟨g1, g2⟩ | g
    · exact anc.le hti r1 g1 g2
    · omega
  · rcases g with ⟨g1, g2⟩ | g
    · exact anc.pi hti r1 r2 g2
    · rw [g]; exact Int.le_refl _
  · obtain ⟨y1, y2, y3⟩ := h.1.2.2.2.1 v v1 v2
    rw [hc.2 335 v (by decide) (by decide) v1 (by omega), hc.2 336 v (by decide) (by decide) v1 (by omega)]
    exact ⟨y1, h.tg hc (y3 (fun z => z))⟩
  · obtain ⟨hv, g1, g2⟩ := g
    rw [hc.2 335 v (by decide) (by decide) hv.1 (by omega)]
    by_cases c : r = w 335 (v + 3600)
    · exact Or.inl c
    · right
      have r0 : 0 ≤ r := by
        by_cases c2 : 0 ≤ r
        · exact c2
        · have e : r = -1 := by omega
          subst e
          exact absurd g1.neg.symm c
      have gp := g1.or.resolve_left c
      rw [par_nn w r0] at gp
      rw [hc.2 334 (r / 3) (by decide) (by decide) (by omega) (by omega), hc.2 336 v (by decide) (by decide) hv.1 (by omega), hc.2 331 (r / 3) (by decide) (by decide) (by omega) (by omega)]
      exact ⟨r0, g2 r (anc.refl w r) g1 c, hv, gp, fun q y1 y2 y3 => g2 q (anc.step (by rw [par_nn w r0]; exact y1)) y2 y3⟩
end
end
