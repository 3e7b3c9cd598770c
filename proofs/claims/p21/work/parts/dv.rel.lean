noncomputable section
/-! the class: what is kept from call to call -/
def kAl (w : eW) : Prop := ∀ c k, 0 ≤ c → c ≤ 274 → kn1 (w c k)
def cdD (w : eW) : Prop := isCd (w 1 3) ∧ (∀ a, 0 ≤ a → a ≤ 3 → isCd (w (17 * a + 86) 7) ∧ w (17 * a + 86) 7 ≠ w 1 3) ∧ ∀ a b, 0 ≤ a → a ≤ 3 → 0 ≤ b → b ≤ 3 → a ≠ b → w (17 * a + 86) 7 ≠ w (17 * b + 86) 7
def kRel (w : eW) : Prop := e_Has kTy w ∧ e_Has kRy w ∧ ((0 ≤ w 0 13 ∧ w 0 13 ≤ 1) ∧ (0 ≤ w 0 12 ∧ w 0 12 ≤ 2000) ∧ w 0 14 = 1) ∧ cdD w ∧ (w 0 13 = 0 → kBld w) ∧ (w 0 13 = 1 → ∃ OP OD CL S, kB w OP OD CL S)
/-- of every u that knows more -/
def kRelF (w : eW) : Prop := ∀ u, e_rf w u → kAl u → kRel u
/-- open, bytes on the tape, arms are as they were -/
def km3 (w w' : eW) : Prop := w' 0 13 = w 0 13 ∧ w' 1 0 = w 1 0 ∧ w' 0 11 = w 0 11
section DV
variable {w w' u : eW} {a : Int}
theorem cdD.eq (h3 : w' 1 3 = w 1 3) (h7 : ∀ a, 0 ≤ a → a ≤ 3 → w' (17 * a + 86) 7 = w (17 * a + 86) 7) (q : cdD w) : cdD w' := by
  obtain ⟨q1, q2, q3⟩ := q
  exact ⟨by rw [h3]; exact q1, fun a g1 g2 => by rw [h7 a g1 g2, h3]; exact q2 a g1 g2, fun a b g1 g2 g3 g4 g5 => by rw [h7 a g1 g2, h7 b g3 g4]; exact q3 a b g1 g2 g3 g4 g5⟩
theorem bC.cdD (q : bC w) : cdD w := ⟨q.1, fun a g1 g2 => ⟨q.cd g1 g2, (q.2.1 a g1 g2).2⟩, q.2.2⟩
theorem kRy_bd {c k : Int} (h : (kRy c k).1 ≤ (kRy c k).2) : -2147483648 ≤ (kRy c k).1 ∧ (kRy c k).2 ≤ 2147483647 := by
  by_cases g : c = 1
  · subst g
    by_cases gk : k < 0
    · have e : kRy 1 k = (1, 0) := by unfold kRy; rw [if_pos rfl, if_pos gk]
      rw [e]; exact ⟨by decide, by decide⟩
    · obtain ⟨n, rfl⟩ : ∃ n : Nat, k = n := ⟨k.toNat, by omega⟩
      have key : ∀ n : Nat, n < 17 → -2147483648 ≤ (kRy 1 (n : Int)).1 ∧ (kRy 1 (n : Int)).2 ≤ 2147483647 := by decide +kernel
      by_cases g2 : n < 17
      · exact key n g2
      · obtain ⟨j, rfl⟩ : ∃ j, n = j + 17 := ⟨n - 17, by omega⟩
        exact absurd (show (1 : Int) ≤ 0 from h) (by decide)
  · by_cases g2 : 5 ≤ c ∧ c ≤ 7
    · have e : kRy c k = (-2147483648, 2147483647) := by unfold kRy; rw [if_neg g, if_pos g2]
      rw [e]; exact ⟨Int.le_refl _, Int.le_refl _⟩
    · have e : kRy c k = (1, 0) := by unfold kRy; rw [if_neg g, if_neg g2]
      rw [e]; exact ⟨by decide, by decide⟩
theorem e_Has.ryf (h : e_Has kRy w) (hw : e_rf w u) : e_Has kRy u := fun c k hl => by
  have q := h c k hl
  have b := kRy_bd hl
  rw [(kn1.ty q b.1 b.2).rf hw]
  exact q
theorem isCd.kn {x : Int} (h : isCd x) : kn1 x := by unfold isCd at h; unfold kn1; omega
theorem cdD.rf (q : cdD w) (hw : e_rf w u) : cdD u := q.eq (q.1.kn.rf hw) (fun a g1 g2 => (q.2.1 a g1 g2).1.kn.rf hw)
theorem bA1.rf (ga : 0 ≤ a ∧ a ≤ 3) (hT : e_Has kTy w) (hw : e_rf w u) (q : bA1 w a) : bA1 u a := by
  obtain ⟨q1, q2, q3, q4⟩ := q
  have hn := kn_joints hT ga
  have e8 := kq_A (k := 8) hT hw ga (by omega)
  refine ⟨by rw [q1.1.rf hw, q1.2.rf hw]; exact q1, (kq_A (k := 17) hT hw ga (by omega)).trans q2, q3.rf ga hT hw, fun j g1 g2 => ?_⟩
  rw [e8] at g2
  have z := q4 j g1 g2
  unfold jC at z ⊢
  rw [kq_J (k := 1) hT hw ga (by omega) (by omega), kq_J (k := 2) hT hw ga (by omega) (by omega), kq_J (k := 5) hT hw ga (by omega) (by omega), kq_J (k := 6) hT hw ga (by omega) (by omega)]
  exact z
theorem codK.rf {cd : Int} (hc : isCd cd) (hT : e_Has kTy w) (hw : e_rf w u) (q : codK w cd) : codK u cd := by
  have e0 : u cd 0 = w cd 0 := e_Has.kq hT hw (kD_0 hc) (by decide) (by decide) (by decide)
  have e1 : u cd 1 = w cd 1 := e_Has.kq hT hw (kD_1 hc) (by decide) (by decide) (by decide)
  have e2 : ∀ n, u (cd + 1) n = w (cd + 1) n := fun n => e_Has.kq hT hw (kD1 n rfl hc) (by decide) (by decide) (by decide)
  have e3 : ∀ n, u (cd + 2) n = w (cd + 2) n := fun n => e_Has.kq hT hw (kD2 n rfl hc) (by decide) (by decide) (by decide)
  obtain ⟨op, od, cl, ⟨a1, a2⟩, b, ⟨c1, c2⟩⟩ := q
  exact ⟨op, od, cl, ⟨a1, fun p => by rw [e0, e3 p]; exact a2 p⟩, b, fun n g1 g2 => by rw [e2 n]; rw [e1] at g2; exact c1 n g1 g2, fun p h => by rw [e1]; exact c2 p h⟩
theorem bC.rf (hT : e_Has kTy w) (hw : e_rf w u) (q : bC w) : bC u := by
  have d := q.cdD
  have d' := d.rf hw
  refine ⟨d'.1, fun a g1 g2 => ⟨?_, (d'.2.1 a g1 g2).2⟩, d'.2.2⟩
  rw [(d.2.1 a g1 g2).1.kn.rf hw]
  exact (q.2.1 a g1 g2).1.rf (d.2.1 a g1 g2).1 hT hw
theorem bP.rf (hT : e_Has kTy w) (hw : e_rf w u) (q : bP w) : bP u := q.eq hT (fun c k g => by
  rcases g with rfl | rfl
  · exact e_Has.kq hT hw (c := 15) (k := k) (lo := -1) (hi := 63) rfl (by decide) (by decide) (by decide)
  · exact e_Has.kq hT hw (c := 18) (k := k) (lo := 0) (hi := 63) rfl (by decide) (by decide) (by decide))
theorem fP.rf {p : Int} (e0 : u 19 0 = w 19 0) (hw : e_rf w u) (q : fP w p) : fP u p := by
  obtain ⟨q1, q2, q3⟩ := q
  have e6 : u 36 p = w 36 p := (kn1.of q1 (by decide) (by decide)).rf hw
  unfold fP
  rw [e6, e0]
  exact ⟨q1, fun h => ⟨(q2 h).1, by rw [(q2 h).2.rf hw]; exact (q2 h).2⟩, fun h => ⟨by rw [(q3 h).1.rf hw]; exact (q3 h).1, by rw [(q3 h).2.rf hw]; exact (q3 h).2⟩⟩
theorem fKn.rf {n : Int} (hn : n ≤ 32) (e0 : u 19 0 = w 19 0) (hw : e_rf w u) (q : fKn w n) : fKn u n := by
  obtain ⟨q1, q2⟩ := q
  refine ⟨fun b g1 g2 => ?_, fun p g1 g2 => (q2 p g1 g2).rf e0 hw⟩
  rw [e0] at g2
  have z := q1 b g1 g2
  have e5 : u 35 b = w 35 b := (show kn1 (w 35 b) from by unfold kn1; omega).rf hw
  rw [e5]
  refine ⟨z.1, fun i k1 k2 => ?_⟩
  have y := z.2 i k1 k2
  have e1 : u (b + 31) i = w (b + 31) i := (show kn1 (w (b + 31) i) from by unfold kn1; omega).rf hw
  have p1 := (q2 _ y.1.1 y.1.2).1
  rw [e1, (kn1.of p1 (by decide) (by decide)).rf hw]
  exact y
theorem bF.rf (hT : e_Has kTy w) (hw : e_rf w u) (q : bF w) : bF u := by
  have hm := e_Has.get hT (c := 19) (k := 1) (lo := 0) (hi := 32) rfl (by decide)
  have e0 : u 19 0 = w 19 0 := e_Has.kq hT hw (c := 19) (k := 0) (lo := 0) (hi := 4) rfl (by decide) (by decide) (by decide)
  have e1 : u 19 1 = w 19 1 := e_Has.kq hT hw (c := 19) (k := 1) (lo := 0) (hi := 32) rfl (by decide) (by decide) (by decide)
  refine ⟨fun p g1 g2 g3 => ?_, by rw [e1]; exact q.2.rf hm.2 e0 hw⟩
  rw [e1] at g2
  have e2 : u (p + 42) 0 = w (p + 42) 0 := e_Has.kq hT hw (kG_0 (p := p) rfl (by omega)) (by decide) (by decide) (by decide)
  rw [e2] at g3 ⊢
  rw [e0]
  exact q.1 p g1 g2 g3
theorem kBld.rf (hT : e_Has kTy w) (hw : e_rf w u) (q : kBld w) : kBld u := by
  obtain ⟨q1, q2, q3, q4, q5⟩ := q
  exact ⟨fun a g1 g2 => (q1 a g1 g2).rf ⟨g1, g2⟩ hT hw, q2.rf hT hw, q3.rf hT hw, q4.rf hT hw, ((show kn1 (w 262 0) from by rw [q5]; unfold kn1; omega).rf hw).trans q5⟩
theorem kRel.rf (q : kRel w) (hw : e_rf w u) : kRel u := by
  obtain ⟨q1, q2, ⟨q3, q4, q5⟩, q6, q7, q8⟩ := q
  have e13 : u 0 13 = w 0 13 := (kn1.of q3 (by decide) (by decide)).rf hw
  have e12 : u 0 12 = w 0 12 := (kn1.of q4 (by decide) (by decide)).rf hw
  have e14 : u 0 14 = w 0 14 := (show kn1 (w 0 14) from by rw [q5]; unfold kn1; omega).rf hw
  refine ⟨q1.krf hw, q2.ryf hw, ⟨by omega, by omega, by omega⟩, q6.rf hw, fun h => (q7 (by omega)).rf q1 hw, fun h => ?_⟩
  obtain ⟨OP, OD, CL, S, k⟩ := q8 (by omega)
  exact ⟨OP, OD, CL, S, k.rf hw⟩
theorem kRel.F (q : kRel w) : kRelF w := fun _ hw _ => q.rf hw
theorem kRel.lk (q : kRel w) (hAll : kAl w) : lkK w := by
  obtain ⟨q1, q2, ⟨q3, q4, q5⟩, q6, q7, q8⟩ := q
  by_cases h : w 0 13 = 0
  · exact (q7 h).lk q1 hAll
  · obtain ⟨OP, OD, CL, S, k⟩ := q8 (by omega)
    obtain ⟨hh, -, hI⟩ := k.live
    exact ⟨q1, hAll, hI.cd, fun a g1 g2 => ((hI.2.1 a g1 g2).2.2.2.2.2).1, fun a g1 g2 => (hI.2.1 a g1 g2).1, hI.2.2.1⟩
theorem kRel.p62 (q : kRel w) : 0 ≤ w 262 0 ∧ w 262 0 ≤ 60 := by
  obtain ⟨q1, q2, ⟨q3, q4, q5⟩, q6, q7, q8⟩ := q
  by_cases h : w 0 13 = 0
  · have := (q7 h).2.2.2.2; omega
  · obtain ⟨OP, OD, CL, S, k⟩ := q8 (by omega)
    exact k.1.2
theorem kRel.ak (q : kRel w) : ∀ a, 0 ≤ a → a ≤ 3 → aK w a := by
  obtain ⟨q1, q2, ⟨q3, q4, q5⟩, q6, q7, q8⟩ := q
  intro a g1 g2
  by_cases h : w 0 13 = 0
  · exact ((q7 h).1 a g1 g2).2.2.1
  · obtain ⟨OP, OD, CL, S, k⟩ := q8 (by omega)
    obtain ⟨hh, -, hI⟩ := k.live
    exact (hI.2.1 a g1 g2).1
theorem kRel.hC (q : kRel w) : ∀ a, 0 ≤ a → a ≤ 3 → isCd (w (17 * a + 86) 7) := fun a g1 g2 => (q.2.2.2.1.2.1 a g1 g2).1
theorem km3.refl (w : eW) : km3 w w := ⟨rfl, rfl, rfl⟩
theorem nw_lo {c k : Int} (q : kNw c k) : c ≠ 0 ∧ c ≠ 1 ∧ (c < 5 ∨ 7 < c) := by
  unfold kNw at q
  omega
theorem kRel.opn {S : Int → Int → Prop} (q : kRel w) (hT : e_Has kTy w') (h1 : w 0 13 = 1) (f : e_fr S w w') (hS : ∀ c k, S c k → (c ≠ 1 ∧ (c < 5 ∨ 7 < c)) ∧ ¬ (c = 0 ∧ (k = 11 ∨ k = 13))) (h7 : ∀ a, 0 ≤ a → a ≤ 3 → ¬ S (17 * a + 86) 7) (h14 : w' 0 14 = 1) (hB : ∃ OP OD CL S, kB w' OP OD CL S) : kRelF w' ∧ km3 w w' := by
  obtain ⟨q1, q2, ⟨q3, q4, q5⟩, q6, q7, q8⟩ := q
  have e13 : w' 0 13 = w 0 13 := f _ _ (fun g => (hS _ _ g).2 ⟨rfl, Or.inr rfl⟩)
  have e11 : w' 0 11 = w 0 11 := f _ _ (fun g => (hS _ _ g).2 ⟨rfl, Or.inl rfl⟩)
  have e10 : w' 1 0 = w 1 0 := f _ _ (fun g => (hS _ _ g).1.1 rfl)
  have h12 : 0 ≤ w' 0 12 ∧ w' 0 12 ≤ 2000 := by
    obtain ⟨OP, OD, CL, S', k⟩ := hB
    exact k.1.1
  exact ⟨kRel.F ⟨hT, H_fr f (fun c k g => (hS c k g).1) q2, ⟨by omega, h12, h14⟩, q6.eq (f _ _ (fun g => (hS _ _ g).1.1 rfl)) (fun a g1 g2 => f _ _ (h7 a g1 g2)), fun h => by omega, fun _ => hB⟩, e13, e10, e11⟩
theorem kRel.bl {S : Int → Int → Prop} (q : kRel w) (hT : e_Has kTy w') (h0 : w 0 13 = 0) (f : e_fr S w w') (hS : ∀ c k, S c k → (c ≠ 1 ∧ (c < 5 ∨ 7 < c)) ∧ ¬ (c = 0 ∧ 12 ≤ k)) (hb : kBld w') : kRelF w' ∧ w' 0 13 = w 0 13 ∧ w' 1 0 = w 1 0 ∧ (¬ S 0 11 → w' 0 11 = w 0 11) := by
  obtain ⟨q1, q2, ⟨q3, q4, q5⟩, q6, q7, q8⟩ := q
  have e : ∀ k, 12 ≤ k → w' 0 k = w 0 k := fun k g => f _ _ (fun g2 => (hS _ _ g2).2 ⟨rfl, g⟩)
  have e10 : w' 1 0 = w 1 0 := f _ _ (fun g => (hS _ _ g).1.1 rfl)
  have e13 := e 13 (by omega)
  exact ⟨kRel.F ⟨hT, H_fr f (fun c k g => (hS c k g).1) q2, ⟨by omega, by rw [e 12 (by omega)]; exact q4, (e 14 (by omega)).trans q5⟩, hb.2.1.cdD, fun _ => hb, fun h => by omega⟩, e13, e10, fun g => f _ _ g⟩
theorem opK.rel (q : kRel w) (hT : e_Has kTy w') (h : opK w w') : kRelF w' ∧ km3 w w' := by
  rcases h with rfl | ⟨h1, f, hB⟩
  · exact ⟨q.F, km3.refl _⟩
  · refine q.opn hT h1 f (fun c k g => ?_) (fun a g1 g2 g => ?_) ((f _ _ (fun g => ?_)).trans q.2.2.1.2.2) hB
    · rcases g with g | g | g
      · have := nw_lo g; exact ⟨this.2, fun z => this.1 z.1⟩
      · exact ⟨by omega, by omega⟩
      · exact ⟨by omega, by omega⟩
    · rcases g with g | g | g
      · exact nw_a ⟨g1, g2⟩ (by omega) g
      · omega
      · omega
    · rcases g with g | g | g
      · exact (nw_lo g).1 rfl
      · omega
      · omega
theorem opB.rel (q : kRel w) (hT : e_Has kTy w') (h : opB w w') : kRelF w' ∧ km3 w w' := by
  rcases h with rfl | ⟨h1, f, h14, hB⟩
  · exact ⟨q.F, km3.refl _⟩
  · refine q.opn hT h1 f (fun c k g => ?_) (fun a g1 g2 g => ?_) h14 hB
    · rcases g with g | g
      · have := nw_lo g; exact ⟨this.2, fun z => this.1 z.1⟩
      · exact ⟨by omega, by omega⟩
    · rcases g with g | g
      · exact nw_a ⟨g1, g2⟩ (by omega) g
      · omega
theorem opP.rel (q : kRel w) (hT : e_Has kTy w') (h : opP w w') : kRelF w' ∧ km3 w w' := by
  rcases h with rfl | ⟨h1, f, hB⟩
  · exact ⟨q.F, km3.refl _⟩
  · refine q.opn hT h1 f (fun c k g => ?_) (fun a g1 g2 g => ?_) ((f _ _ (fun g => ?_)).trans q.2.2.1.2.2) hB
    · rcases g with (g | g | g) | g
      · have := nw_lo g; exact ⟨this.2, fun z => this.1 z.1⟩
      · exact ⟨by omega, by omega⟩
      · exact ⟨by omega, by omega⟩
      · exact ⟨by omega, by omega⟩
    · rcases g with (g | g | g) | g
      · exact nw_a ⟨g1, g2⟩ (by omega) g
      · omega
      · omega
      · omega
    · rcases g with (g | g | g) | g
      · exact (nw_lo g).1 rfl
      · omega
      · omega
      · omega
theorem cl_lo {c k : Int} (q : kCL c k) : c ≠ 1 ∧ (c < 5 ∨ 7 < c) := by
  rcases q with q | q | q | q | q | q | q | q | q | q | q | q
  · exact (nw_lo q).2
  all_goals omega
/-- the tape alone has changed -/
theorem kRel.tp (q : kRel w) (f : e_fr kTp w w') (hT : e_Has kTy w') (h0 : 0 ≤ w' 1 0 ∧ w' 1 0 ≤ 4000) (ho : ∀ c k, e_out elay c k → w' c k = w c k) : kRelF w' := fun u hw hAl => by
  obtain ⟨q1, q2, ⟨q3, q4, q5⟩, q6, q7, q8⟩ := q
  have ft : ∀ c k, ¬ ((c = 1 ∧ k = 0) ∨ c = 5) → w' c k = w c k := f
  have e : ∀ k, w' 0 k = w 0 k := fun k => ft _ _ (by omega)
  have e13 := e 13
  have e14 := e 14
  have e12 := e 12
  have ku : ∀ c k, ¬ ((c = 1 ∧ k = 0) ∨ c = 5) → kn1 (w c k) → u c k = w c k := fun c k g h => by
    have z := ft c k g
    rw [← z]
    exact (show kn1 (w' c k) from by rw [z]; exact h).rf hw
  have d3 : u 1 3 = w 1 3 := ku _ _ (by omega) q6.1.kn
  have d7 : ∀ a, 0 ≤ a → a ≤ 3 → u (17 * a + 86) 7 = w (17 * a + 86) 7 := fun a g1 g2 => ku _ _ (by omega) (q6.2.1 a g1 g2).1.kn
  have u13 : u 0 13 = w 0 13 := ku _ _ (by omega) (kn1.of q3 (by decide) (by decide))
  have u12 : u 0 12 = w 0 12 := ku _ _ (by omega) (kn1.of q4 (by decide) (by decide))
  have u14 : u 0 14 = w 0 14 := ku _ _ (by omega) (by rw [q5]; unfold kn1; omega)
  have u10 : u 1 0 = w' 1 0 := (kn1.of h0 (by decide) (by decide)).rf hw
  refine ⟨hT.krf hw, fun c k hl => ?_, ⟨by omega, by omega, by omega⟩, q6.eq d3 d7, fun h => ?_, fun h => ?_⟩
  · have g := kRy_rg hl
    have b := kRy_bd hl
    by_cases g5 : c = 5
    · have e5 : kRy c k = (-2147483648, 2147483647) := by unfold kRy; rw [if_neg (by omega), if_pos (by omega)]
      rw [e5]
      exact hAl c k (by omega) (by omega)
    · by_cases g0 : c = 1 ∧ k = 0
      · obtain ⟨rfl, rfl⟩ := g0
        rw [u10]; exact h0
      · have z := q2 c k hl
        rw [ku c k (by omega) (kn1.ty z b.1 b.2)]
        exact z
  · exact ((q7 (by omega)).eq q1 (w' := w') (fun c k g => ft c k (by unfold dBa dBc dBp dBf at g; omega))).rf hT hw
  · obtain ⟨OP, OD, CL, S, k⟩ := q8 (by omega)
    have hf : e_fr kNh w w' := f.mono (fun c k g => by
      rcases g with g | g
      · exact Or.inr (Or.inr (Or.inr (Or.inr (Or.inl g.1))))
      · exact Or.inr (Or.inr (Or.inr (Or.inr (Or.inr ⟨by omega, by omega⟩)))))
    refine ⟨OP, OD, CL, S, kB.rf hw (k.keep (Kc.of hf q1 hT ho) e12 (by have z := ft 262 0 (by omega); have := k.1.2; omega) (fun c k g _ => ft c k (by unfold kYs at g; omega)) (fun k _ _ => ft _ _ (by omega)) (fun c k' g h => ?_) (fun a g1 g2 => ?_))⟩
    · have z : w' c k' = w c k' := ft c k' (fun g2 => g (by
        rcases g2 with ⟨rfl, rfl⟩ | rfl
        · exact Or.inl ⟨Or.inr (Or.inl rfl), (show (1 : Int) ≠ 0 from by decide)⟩
        · exact Or.inl ⟨Or.inr (Or.inr (Or.inl ⟨by omega, by omega⟩)), (show (1 : Int) ≠ 0 from by decide)⟩))
      rw [z]
      exact k.2.2.2.1 c k' g h
    · refine (k.2.1.2 a g1 g2).eq (ft _ _ (by omega)) (fun c k' g => ?_) (fun k' g => ⟨ft _ _ (by omega), ft _ _ (by omega)⟩)
      rcases g with g | ⟨j, hj, rfl, rfl⟩
      · exact Kq.of hf q1 hT c k' g
      · exact ft _ _ (by omega)
/-- the line that was looked at alone has changed -/
theorem kRel.tc (q : kRel w) (f : e_fr kTc w w') (hT : e_Has kTy w') (ho : ∀ c k, e_out elay c k → w' c k = w c k) : kRelF w' := by
  obtain ⟨q1, q2, ⟨q3, q4, q5⟩, q6, q7, q8⟩ := q
  have ft : ∀ c k, ¬ (c = 250 ∧ 13 ≤ k ∧ k ≤ 16) → w' c k = w c k := f
  have e13 : w' 0 13 = w 0 13 := ft _ _ (by omega)
  have e12 : w' 0 12 = w 0 12 := ft _ _ (by omega)
  have e14 : w' 0 14 = w 0 14 := ft _ _ (by omega)
  have hN : ∀ c k, kTc c k → kNw c k := fun c k g => by unfold kTc at g; unfold kNw; omega
  have hf : e_fr kNh w w' := f.mono (fun c k g => Or.inl (hN c k g))
  refine kRel.F ⟨hT, H_fr f (fun c k g => by unfold kTc at g; omega) q2, ⟨by omega, by omega, by omega⟩, q6.eq (ft _ _ (by omega)) (fun a g1 g2 => ft _ _ (by omega)), fun h => (q7 (by omega)).fr q1 f (fun c k g => by unfold kTc at g; unfold dBa dBc dBp dBf; omega), fun h => ?_⟩
  obtain ⟨OP, OD, CL, S, k⟩ := q8 (by omega)
  refine ⟨OP, OD, CL, S, k.keep (Kc.of hf q1 hT ho) e12 (by have z := ft 262 0 (by omega); have := k.1.2; omega) (fun c k g _ => ft c k (by unfold kYs at g; omega)) (fun k _ _ => ft _ _ (by omega)) (fun c k' g h => ?_) (fun a g1 g2 => (k.2.1.2 a g1 g2).frN ⟨g1, g2⟩ f q1 hT hN (fun c k g1 g2 g => by unfold kTc at g; omega))⟩
  have z : w' c k' = w c k' := ft c k' (fun g2 => g (Or.inr g2))
  rw [z]
  exact k.2.2.2.1 c k' g h
end DV
end
