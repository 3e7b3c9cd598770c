noncomputable section
/-! a new cell; what rewind makes is the same each time -/
section D4
variable {w u v v' : eW} {OP OD CL : Int → Int → Int}
/-- what was told is in order -/
def cfI (w : eW) (OP OD CL : Int → Int → Int) : Prop := (∀ a, 0 ≤ a → a ≤ 3 → kn1 (w (17 * a + 88) 0) ∧ kn1 (w (17 * a + 89) 0)) ∧ (∀ a j, 0 ≤ a → a ≤ 3 → 0 ≤ j → j < w (17 * a + 86) 8 → jC w (17 * a + j + 97)) ∧ kCo w OP OD CL ∧ fFt w ∧ pTo w ∧ ∀ p, 0 ≤ p → p ≤ 63 → ∃ k, (0 ≤ k ∧ k ≤ 63) ∧ w 18 k = p
theorem dC_Kc {c k : Int} (g : dC c k) : Kc c k := Kc_0 (by
  unfold dC at g
  rcases g with g | g | g | g | g | g | g | g | g <;> exact ⟨by omega, by unfold kNh kNw; omega⟩)
theorem cfI.eq (h : ∀ c k, Kc c k → v c k = w c k) (hT : e_Has kTy w) (q : cfI w OP OD CL) : cfI v OP OD CL := by
  have hm := e_Has.get hT (c := 19) (k := 1) (lo := 0) (hi := 32) rfl (by decide)
  obtain ⟨q1, q2, q3, q4, q5, q6⟩ := q
  refine ⟨fun a g1 g2 => ?_, fun a j g1 g2 g3 g4 => ?_, q3.eq (fun c k g => h c k (dC_Kc g)), q4.eq h (by omega), q5.eq (fun k => ⟨h _ _ (Kc_0 ⟨by omega, by unfold kNh kNw; omega⟩), h _ _ (Kc_0 ⟨by omega, by unfold kNh kNw; omega⟩)⟩), fun p g1 g2 => ?_⟩
  · rw [h _ _ (Kc_0 ⟨by omega, by unfold kNh kNw; omega⟩), h _ _ (Kc_0 ⟨by omega, by unfold kNh kNw; omega⟩)]
    exact q1 a g1 g2
  · have hn := kn_joints hT ⟨g1, g2⟩
    rw [h (17 * a + 86) 8 (Kc_0 ⟨by omega, by unfold kNh kNw; omega⟩)] at g4
    have z := q2 a j g1 g2 g3 g4
    unfold jC at z ⊢
    rw [h _ 1 (Kc_0 ⟨by omega, by unfold kNh kNw; omega⟩), h _ 2 (Kc_0 ⟨by omega, by unfold kNh kNw; omega⟩), h _ 5 (Kc_0 ⟨by omega, by unfold kNh kNw; omega⟩), h _ 6 (Kc_0 ⟨by omega, by unfold kNh kNw; omega⟩)]
    exact z
  · obtain ⟨k, hk, e⟩ := q6 p g1 g2
    exact ⟨k, hk, by rw [h 18 k (Kc_0 ⟨by omega, by unfold kNh kNw; omega⟩)]; exact e⟩
/-- values that fit the wires -/
theorem rc0_congr {V V' : Int → Int} {p : Int} (h : 0 ≤ w 15 p → V' (w 15 p) = V (w 15 p)) : rc0 w V' p = rc0 w V p := by
  unfold rc0
  by_cases g : w 15 p < 0
  · rw [if_pos g, if_pos g]
  · rw [if_neg g, if_neg g, h (by omega)]
theorem vFx.part (hp : pTo w) : ∀ n : Nat, n ≤ 64 → ∃ V : Int → Int, ∀ k, 0 ≤ k → k < (n : Int) → V (w 18 k) = rc0 w V (w 18 k) := by
  intro n
  induction n with
  | zero => intro _; exact ⟨fun _ => 0, fun k g1 g2 => by omega⟩
  | succ n ih =>
    intro hn
    obtain ⟨V, hV⟩ := ih (by omega)
    by_cases hj : ∃ j : Int, (0 ≤ j ∧ j < (n : Int)) ∧ w 18 j = w 18 (n : Int)
    · obtain ⟨j, hj1, hj2⟩ := hj
      refine ⟨V, fun k g1 g2 => ?_⟩
      by_cases e : k = (n : Int)
      · rw [e, ← hj2]; exact hV j hj1.1 hj1.2
      · exact hV k g1 (by omega)
    · have ne : ∀ j : Int, 0 ≤ j → j < (n : Int) → w 18 j ≠ w 18 (n : Int) := fun j g1 g2 g3 => hj ⟨j, ⟨g1, g2⟩, g3⟩
      refine ⟨fun x => if x = w 18 (n : Int) then rc0 w V (w 18 (n : Int)) else V x, fun k g1 g2 => ?_⟩
      have src : ∀ k : Int, 0 ≤ k → k ≤ (n : Int) → 0 ≤ w 15 (w 18 k) → w 15 (w 18 k) ≠ w 18 (n : Int) := fun k g1 g2 g3 => by
        obtain ⟨j, hj1, hj2⟩ := hp k g1 (by omega) g3
        rw [← hj2]
        exact ne j hj1.1 (by omega)
      have cg : rc0 w (fun x => if x = w 18 (n : Int) then rc0 w V (w 18 (n : Int)) else V x) (w 18 k) = rc0 w V (w 18 k) := rc0_congr (fun g3 => by
        show (if _ then _ else _) = _
        rw [if_neg (src k g1 (by omega) g3)])
      rw [cg]
      show (if w 18 k = w 18 (n : Int) then _ else _) = _
      by_cases e : k = (n : Int)
      · rw [e, if_pos rfl]
      · rw [if_neg (ne k g1 (by omega))]; exact hV k g1 (by omega)
theorem vFx.ex (hp : pTo w) (hc : ∀ p, 0 ≤ p → p ≤ 63 → ∃ k, (0 ≤ k ∧ k ≤ 63) ∧ w 18 k = p) : ∃ V, vFx w V := by
  obtain ⟨V, hV⟩ := vFx.part hp 64 (by decide)
  refine ⟨V, fun p g1 g2 => ?_⟩
  obtain ⟨k, hk, e⟩ := hc p g1 g2
  rw [← e]
  exact hV k hk.1 (by omega)
/-- what rewind makes of it is known -/
def Kw1 (w : eW) (c k : Int) : Prop := Kc c k ∨ (∃ a, (0 ≤ a ∧ a ≤ 3) ∧ kAr a c k ∧ e_okz (PA w a c k) = true) ∨ (kFl c k ∧ e_okz (PF w c k) = true) ∨ ((0 ≤ k ∧ k < 64) ∧ (c = 11 ∨ c = 12 ∨ c = 13 ∨ c = 16)) ∨ (c = 74 ∧ (k = 0 ∨ k = 1 ∨ (3 ≤ k ∧ k ≤ 7))) ∨ ((78 ≤ c ∧ c ≤ 81) ∧ 0 ≤ k ∧ k < 8) ∨ (c = 83 ∧ 0 ≤ k ∧ k < 8) ∨ (c = 8 ∧ k = 9) ∨ (c = 272 ∧ 0 ≤ k ∧ k < 6) ∨ (∃ t, (0 ≤ t ∧ t ≤ 15) ∧ c = 6 * t + 154 ∧ ((1 ≤ k ∧ k ≤ 7) ∨ k = 10 ∨ k = 11 ∨ k = 14 ∨ k = 15))
theorem tR0.at {t k : Int} (h : tR0 v t) (h' : tR0 v' t) (hk : (1 ≤ k ∧ k ≤ 7) ∨ k = 10 ∨ k = 11 ∨ k = 14 ∨ k = 15) : v' (6 * t + 154) k = v (6 * t + 154) k := by
  obtain ⟨⟨a1, a2, a3, a4, a5, a6⟩, a7, a8, a9, a10, a11⟩ := h
  obtain ⟨⟨b1, b2, b3, b4, b5, b6⟩, b7, b8, b9, b10, b11⟩ := h'
  obtain rfl | rfl | rfl | rfl | rfl | rfl | rfl | rfl | rfl | rfl | rfl : k = 1 ∨ k = 2 ∨ k = 3 ∨ k = 4 ∨ k = 5 ∨ k = 6 ∨ k = 7 ∨ k = 10 ∨ k = 11 ∨ k = 14 ∨ k = 15 := by omega
  all_goals omega
theorem rw0.same (hu : ∀ c k, Kc c k → u c k = w c k) (hv : ∀ c k, Kc c k → v c k = w c k) (hv' : ∀ c k, Kc c k → v' c k = u c k) (hc : cfI w OP OD CL) (h : rw0 w v) (h' : rw0 u v') : ∀ c k, Kw1 w c k → v' c k = v c k := by
  have eA : ∀ a, PA u a = PA w a := fun a => by unfold PA; rw [e_pzK hu]
  have eF : PF u = PF w := by unfold PF; rw [e_pzK hu]
  have e8 : ∀ c k, (c = 15 ∨ c = 17 ∨ c = 18) → u c k = w c k := fun c k g => hu c k (Kc_0 ⟨by omega, by unfold kNh kNw; omega⟩)
  obtain ⟨a1, f1, p1, c1, ⟨d1, d2, d3⟩, i1⟩ := h
  obtain ⟨a2, f2, p2, c2, ⟨d4, d5, d6⟩, i2⟩ := h'
  intro c k q
  rcases q with q | ⟨a, ga, q1, q2⟩ | ⟨q1, q2⟩ | ⟨g, rfl | rfl | rfl | rfl⟩ | ⟨rfl, g⟩ | ⟨g, g2⟩ | ⟨rfl, g⟩ | ⟨rfl, rfl⟩ | ⟨rfl, g⟩ | ⟨t, gt, rfl, g⟩
  · rw [hv' c k q, hu c k q, hv c k q]
  · have z1 := (a1 a ga.1 ga.2).2.1 c k q1 q2
    have z2 := (a2 a ga.1 ga.2).2.1 c k q1 (by rw [eA]; exact q2)
    rw [z1, z2, eA]
  · have z1 := f1.2 c k q1 q2
    have z2 := f2.2 c k q1 (by rw [eF]; exact q2)
    rw [z1, z2, eF]
  · rw [p1.1.1 k g.1 g.2, p2.1.1 k g.1 g.2]
  · obtain ⟨V, hV⟩ := vFx.ex hc.2.2.2.2.1 hc.2.2.2.2.2
    obtain ⟨j, hj, e⟩ := hc.2.2.2.2.2 k g.1 (by omega)
    have z1 := p1.2 V hV hc.2.2.2.2.1 j hj.1 (by omega)
    have z2 := p2.2 V (hV.eq (fun k => ⟨e8 _ _ (by omega), e8 _ _ (by omega)⟩)) (hc.2.2.2.2.1.eq (fun k => ⟨e8 _ _ (by omega), e8 _ _ (by omega)⟩)) j hj.1 (by omega)
    rw [e8 18 j (by omega)] at z2
    rw [← e, z1, z2]
  · rw [p1.1.2.2 k g.1 g.2, p2.1.2.2 k g.1 g.2]
  · rw [p1.1.2.1 k g.1 g.2, p2.1.2.1 k g.1 g.2]
  · obtain ⟨b1, b2, b3, b4, b5, b6, b7⟩ := c1.1
    obtain ⟨e1, e2, e3, e4, e5, e6, e7⟩ := c2.1
    obtain rfl | rfl | rfl | rfl | rfl | rfl | rfl : k = 0 ∨ k = 1 ∨ k = 3 ∨ k = 4 ∨ k = 5 ∨ k = 6 ∨ k = 7 := by omega
    all_goals omega
  · have z1 := c1.2 k g2.1 g2.2
    have z2 := c2.2 k g2.1 g2.2
    obtain rfl | rfl | rfl | rfl : c = 78 ∨ c = 79 ∨ c = 80 ∨ c = 81 := by omega
    all_goals omega
  · rw [d2 k g.1 g.2, d5 k g.1 g.2]
  · rw [d3, d6]
  · rw [i1 k g.1 g.2, i2 k g.1 g.2]
  · exact (d1 t gt.1 gt.2).at (d4 t gt.1 gt.2) g
theorem inn {c k : Int} {kd cl n : Nat} (hl : elay[c.toNat]? = some (kd, cl, n)) (h0 : 0 ≤ c) (h1 : c ≠ 280) (ho : ¬ e_out elay c k) : 0 ≤ k ∧ k < n := by
  apply Classical.byContradiction
  intro g
  refine ho ⟨h0, h1, fun kd' cl' n' e => ?_⟩
  rw [hl] at e
  have e2 : n = n' := congrArg (fun q => q.2.2) (Option.some.inj e)
  omega
theorem okz_of {x z : Int} (h : x = z) (hz : e_okz z = true) : e_okz x = true := by rw [h]; exact hz
/-- every typed place is known -/
theorem typ_K1 (hP : ∀ a, 0 ≤ a → a ≤ 3 → aR0 (PA w a) a) {c k : Int} (hl : (kTy c k).1 ≤ (kTy c k).2) : Kw1 w c k := by
  have hrg := kTy_rg hl
  by_cases hn : kNh c k
  case neg => exact Or.inl (Kc_0 ⟨hrg, hn⟩)
  by_cases hq : (kTy c k).1 = (kTy c k).2
  case pos => exact Or.inl ⟨hrg, Or.inr (Or.inl hq)⟩
  by_cases ho : e_out elay c k
  case pos => exact Or.inl ⟨hrg, Or.inr (Or.inr ho)⟩
  clear hrg
  have bad : ∀ {p : Int × Int}, kTy c k = p → ¬ p.1 ≤ p.2 → Kw1 w c k := fun e g => absurd (e ▸ hl) g
  rcases hn with hn | rfl | ⟨rfl, hn⟩ | hn | rfl | hn
  · unfold kNw at hn
    rcases hn with hn | rfl | hn | hn | hn | hn | rfl | hn | hn | hn | hn | rfl | rfl | hn | hn | hn | hn
    · obtain ⟨rfl, hn⟩ := hn
      have g := inn (c := 74) (k := k) (kd := 0) (cl := 2) (n := 15) rfl (by decide) (by decide) ho
      obtain g2 | g2 : (k = 0 ∨ k = 1 ∨ (3 ≤ k ∧ k ≤ 7)) ∨ 8 ≤ k := by omega
      · exact Or.inr (Or.inr (Or.inr (Or.inr (Or.inl ⟨rfl, g2⟩))))
      · exfalso
        obtain rfl | rfl | rfl | rfl | rfl | rfl | rfl : k = 8 ∨ k = 9 ∨ k = 10 ∨ k = 11 ∨ k = 12 ∨ k = 13 ∨ k = 14 := by omega
        all_goals exact hq rfl
    · exact bad (p := (1, 0)) rfl (by decide)
    · have g : 0 ≤ k ∧ k < 8 := by
        obtain rfl | rfl | rfl | rfl : c = 78 ∨ c = 79 ∨ c = 80 ∨ c = 81 := by omega
        · exact inn (c := 78) (k := k) (kd := 3) (cl := 0) (n := 8) rfl (by decide) (by decide) ho
        · exact inn (c := 79) (k := k) (kd := 3) (cl := 0) (n := 8) rfl (by decide) (by decide) ho
        · exact inn (c := 80) (k := k) (kd := 3) (cl := 0) (n := 8) rfl (by decide) (by decide) ho
        · exact inn (c := 81) (k := k) (kd := 1) (cl := 0) (n := 8) rfl (by decide) (by decide) ho
      exact Or.inr (Or.inr (Or.inr (Or.inr (Or.inr (Or.inl ⟨hn, g⟩)))))
    · obtain rfl | rfl | rfl : c = 83 ∨ c = 84 ∨ c = 85 := by omega
      · exact Or.inr (Or.inr (Or.inr (Or.inr (Or.inr (Or.inr (Or.inl ⟨rfl, inn (c := 83) (k := k) (kd := 1) (cl := 0) (n := 8) rfl (by decide) (by decide) ho⟩))))))
      · exact bad (p := (1, 0)) rfl (by decide)
      · exact bad (p := (1, 0)) rfl (by decide)
    · obtain ⟨rfl, hn⟩ := hn
      have g := inn (c := 8) (k := k) (kd := 0) (cl := 3) (n := 12) rfl (by decide) (by decide) ho
      obtain rfl | rfl | rfl | rfl : k = 8 ∨ k = 9 ∨ k = 10 ∨ k = 11 := by omega
      · exact bad (p := (1, 0)) rfl (by decide)
      · exact Or.inr (Or.inr (Or.inr (Or.inr (Or.inr (Or.inr (Or.inr (Or.inl ⟨rfl, rfl⟩)))))))
      · exact bad (p := (1, 0)) rfl (by decide)
      · exact bad (p := (1, 0)) rfl (by decide)
    · obtain rfl | rfl | rfl | rfl : c = 11 ∨ c = 12 ∨ c = 13 ∨ c = 14 := by omega
      · exact Or.inr (Or.inr (Or.inr (Or.inl ⟨inn (c := 11) (k := k) (kd := 1) (cl := 0) (n := 64) rfl (by decide) (by decide) ho, by omega⟩)))
      · exact Or.inr (Or.inr (Or.inr (Or.inl ⟨inn (c := 12) (k := k) (kd := 1) (cl := 0) (n := 64) rfl (by decide) (by decide) ho, by omega⟩)))
      · exact Or.inr (Or.inr (Or.inr (Or.inl ⟨inn (c := 13) (k := k) (kd := 1) (cl := 0) (n := 64) rfl (by decide) (by decide) ho, by omega⟩)))
      · exact bad (p := (1, 0)) rfl (by decide)
    · exact Or.inr (Or.inr (Or.inr (Or.inl ⟨inn (c := 16) (k := k) (kd := 3) (cl := 0) (n := 64) rfl (by decide) (by decide) ho, by omega⟩)))
    · obtain rfl | rfl | rfl | rfl | rfl | rfl | rfl : c = 31 ∨ c = 32 ∨ c = 33 ∨ c = 34 ∨ c = 35 ∨ c = 36 ∨ c = 37 := by omega
      all_goals exact bad (p := (1, 0)) rfl (by decide)
    · obtain rfl | rfl : c = 39 ∨ c = 40 := by omega
      all_goals exact bad (p := (1, 0)) rfl (by decide)
    · obtain ⟨t, r, hr, rfl⟩ : ∃ t r : Int, ((0 ≤ t ∧ t ≤ 15) ∧ 0 ≤ r ∧ r ≤ 5) ∧ c = 6 * t + 154 + r := ⟨(c - 154) / 6, (c - 154) % 6, by omega, by omega⟩
      obtain rfl | rfl | rfl | rfl | rfl | rfl : r = 0 ∨ r = 1 ∨ r = 2 ∨ r = 3 ∨ r = 4 ∨ r = 5 := by omega
      · have e0 : 6 * t + 154 + 0 = 6 * t + 154 := by omega
        rw [e0] at hl hq ho bad ⊢
        have g := inn (lT0 (t := t) rfl hr.1) (by omega) (by omega) ho
        obtain g2 | g2 | g2 | g2 | g2 | g2 | g2 | g2 : ((1 ≤ k ∧ k ≤ 7) ∨ k = 10 ∨ k = 11 ∨ k = 14 ∨ k = 15) ∨ k = 0 ∨ k = 8 ∨ k = 9 ∨ k = 12 ∨ k = 13 ∨ (k = 16 ∨ k = 17 ∨ k = 18) ∨ (k = 19 ∨ k = 20) := by omega
        · exact Or.inr (Or.inr (Or.inr (Or.inr (Or.inr (Or.inr (Or.inr (Or.inr (Or.inr ⟨t, hr.1, rfl, g2⟩))))))))
        · subst g2; exact absurd (by rw [kT_0 (t := t) rfl hr.1]) hq
        · subst g2; exact bad (kT_8 (t := t) rfl hr.1) (by decide)
        · subst g2; exact bad (kT_9 (t := t) rfl hr.1) (by decide)
        · subst g2; exact bad (kT_12 (t := t) rfl hr.1) (by decide)
        · subst g2; exact bad (kT_13 (t := t) rfl hr.1) (by decide)
        · rcases g2 with rfl | rfl | rfl
          · exact absurd (by rw [kT_16 (t := t) rfl hr.1]) hq
          · exact absurd (by rw [kT_17 (t := t) rfl hr.1]) hq
          · exact absurd (by rw [kT_18 (t := t) rfl hr.1]) hq
        · rcases g2 with rfl | rfl
          · exact absurd (by rw [kT_19 (t := t) rfl hr.1]) hq
          · exact absurd (by rw [kT_20 (t := t) rfl hr.1]) hq
      · exact bad (kT155 (t := t) k (by omega) hr.1) (by decide)
      · exact bad (kT156 (t := t) k (by omega) hr.1) (by decide)
      · exact bad (kT157 (t := t) k (by omega) hr.1) (by decide)
      · exact bad (kT158 (t := t) k (by omega) hr.1) (by decide)
      · exact bad (kT159 (t := t) k (by omega) hr.1) (by decide)
    · obtain ⟨rfl, hn⟩ := hn
      have g := inn (c := 250) (k := k) (kd := 0) (cl := 9) (n := 17) rfl (by decide) (by decide) ho
      obtain rfl | rfl | rfl | rfl : k = 13 ∨ k = 14 ∨ k = 15 ∨ k = 16 := by omega
      all_goals exact bad (p := (1, 0)) rfl (by decide)
    · exact bad (p := (1, 0)) rfl (by decide)
    · exact Or.inr (Or.inr (Or.inr (Or.inr (Or.inr (Or.inr (Or.inr (Or.inr (Or.inl ⟨rfl, inn (c := 272) (k := k) (kd := 1) (cl := 0) (n := 6) rfl (by decide) (by decide) ho⟩))))))))
    · obtain ⟨a, ga, rfl⟩ : ∃ a : Int, (0 ≤ a ∧ a ≤ 3) ∧ c = 17 * a + 86 := ⟨(c - 86) / 17, by omega, by omega⟩
      have g := inn (lA0 (a := a) rfl ga) (by omega) (by omega) ho
      obtain ⟨h11, h13, h14, h15, h16, h17, h18, h19⟩ := (hP a ga.1 ga.2).1
      obtain rfl | rfl | rfl | rfl | rfl | rfl | rfl | rfl | rfl : k = 11 ∨ k = 12 ∨ k = 13 ∨ k = 14 ∨ k = 15 ∨ k = 16 ∨ k = 17 ∨ k = 18 ∨ k = 19 := by omega
      · exact Or.inr (Or.inl ⟨a, ga, Or.inl ⟨rfl, by omega⟩, okz_of h11 rfl⟩)
      · exact bad (kA_12 (a := a) rfl ga) (by decide)
      · exact Or.inr (Or.inl ⟨a, ga, Or.inl ⟨rfl, by omega⟩, okz_of h13 rfl⟩)
      · exact Or.inr (Or.inl ⟨a, ga, Or.inl ⟨rfl, by omega⟩, okz_of h14 rfl⟩)
      · exact Or.inr (Or.inl ⟨a, ga, Or.inl ⟨rfl, by omega⟩, okz_of h15 rfl⟩)
      · exact Or.inr (Or.inl ⟨a, ga, Or.inl ⟨rfl, by omega⟩, okz_of h16 rfl⟩)
      · exact Or.inr (Or.inl ⟨a, ga, Or.inl ⟨rfl, by omega⟩, okz_of h17 rfl⟩)
      · exact Or.inr (Or.inl ⟨a, ga, Or.inl ⟨rfl, by omega⟩, okz_of h18 rfl⟩)
      · exact Or.inr (Or.inl ⟨a, ga, Or.inl ⟨rfl, by omega⟩, okz_of h19 rfl⟩)
    · obtain ⟨a, ga, hc⟩ : ∃ a : Int, (0 ≤ a ∧ a ≤ 3) ∧ (c = 17 * a + 88 ∨ c = 17 * a + 89 ∨ c = 17 * a + 90 ∨ c = 17 * a + 91) := ⟨(c - 86) / 17, by omega, by omega⟩
      rcases hc with hc | hc | hc | hc
      · exact bad (kA88 (a := a) k hc ga) (by decide)
      · exact bad (kA89 (a := a) k hc ga) (by decide)
      · exact bad (kA90 (a := a) k hc ga) (by decide)
      · exact bad (kA91 (a := a) k hc ga) (by decide)
    · obtain ⟨a, ga, rfl⟩ : ∃ a : Int, (0 ≤ a ∧ a ≤ 3) ∧ c = 17 * a + 93 := ⟨(c - 86) / 17, by omega, by omega⟩
      have g := inn (lA7 (a := a) rfl ga) (by omega) (by omega) ho
      exact Or.inr (Or.inl ⟨a, ga, Or.inr (Or.inr (Or.inr (Or.inr (Or.inr rfl)))), okz_of ((hP a ga.1 ga.2).2.2.1 k g.1 g.2) rfl⟩)
    · obtain ⟨a, j, ga, rfl⟩ : ∃ a j : Int, ((0 ≤ a ∧ a ≤ 3) ∧ 0 ≤ j ∧ j ≤ 5) ∧ c = 17 * a + j + 97 := ⟨(c - 86) / 17, (c - 86) % 17 - 11, by omega, by omega⟩
      have g := inn (lJ (a := a) (j := j) rfl ga.1 ga.2) (by omega) (by omega) ho
      obtain ⟨h7, h8, h9⟩ := (hP a ga.1.1 ga.1.2).2.1 j ga.2.1 (by omega)
      obtain rfl | rfl | rfl | rfl | rfl : k = 7 ∨ k = 8 ∨ k = 9 ∨ k = 10 ∨ k = 11 := by omega
      · exact Or.inr (Or.inl ⟨a, ga.1, Or.inr (Or.inl (by omega)), okz_of h7 rfl⟩)
      · exact Or.inr (Or.inl ⟨a, ga.1, Or.inr (Or.inl (by omega)), okz_of h8 rfl⟩)
      · exact Or.inr (Or.inl ⟨a, ga.1, Or.inr (Or.inl (by omega)), okz_of h9 rfl⟩)
      · exact bad (kJ_10 (a := a) (j := j) rfl ga.1 ga.2) (by decide)
      · exact bad (kJ_11 (a := a) (j := j) rfl ga.1 ga.2) (by decide)
  · exact bad (p := (1, 0)) rfl (by decide)
  · have g := inn (c := 0) (k := k) (kd := 0) (cl := 11) (n := 15) rfl (by decide) (by decide) ho
    obtain rfl | rfl | rfl : k = 12 ∨ k = 13 ∨ k = 14 := by omega
    all_goals exact bad (p := (1, 0)) rfl (by decide)
  · obtain rfl | rfl | rfl | rfl | rfl | rfl | rfl | rfl | rfl | rfl : c = 262 ∨ c = 263 ∨ c = 264 ∨ c = 265 ∨ c = 266 ∨ c = 267 ∨ c = 268 ∨ c = 269 ∨ c = 270 ∨ c = 271 := by omega
    · have g := inn (c := 262) (k := k) (kd := 0) (cl := 6) (n := 13) rfl (by decide) (by decide) ho
      obtain rfl | rfl | rfl | rfl | rfl | rfl | rfl | rfl | rfl | rfl | rfl | rfl | rfl : k = 0 ∨ k = 1 ∨ k = 2 ∨ k = 3 ∨ k = 4 ∨ k = 5 ∨ k = 6 ∨ k = 7 ∨ k = 8 ∨ k = 9 ∨ k = 10 ∨ k = 11 ∨ k = 12 := by omega
      all_goals first | exact bad (p := (1, 0)) rfl (by decide) | exact absurd rfl hq
    · exact bad (p := (1, 0)) rfl (by decide)
    · exact bad (p := (1, 0)) rfl (by decide)
    · exact bad (p := (1, 0)) rfl (by decide)
    · exact bad (p := (1, 0)) rfl (by decide)
    · exact bad (p := (1, 0)) rfl (by decide)
    · exact bad (p := (1, 0)) rfl (by decide)
    · exact bad (p := (1, 0)) rfl (by decide)
    · exact bad (p := (1, 0)) rfl (by decide)
    · exact bad (p := (1, 0)) rfl (by decide)
  · have g := inn (c := 1) (k := k) (kd := 0) (cl := 8) (n := 17) rfl (by decide) (by decide) ho
    obtain rfl | rfl | rfl | rfl | rfl | rfl | rfl | rfl | rfl | rfl | rfl | rfl | rfl | rfl | rfl | rfl | rfl : k = 0 ∨ k = 1 ∨ k = 2 ∨ k = 3 ∨ k = 4 ∨ k = 5 ∨ k = 6 ∨ k = 7 ∨ k = 8 ∨ k = 9 ∨ k = 10 ∨ k = 11 ∨ k = 12 ∨ k = 13 ∨ k = 14 ∨ k = 15 ∨ k = 16 := by omega
    all_goals first | exact bad (p := (1, 0)) rfl (by decide) | exact absurd rfl hq
  · obtain rfl | rfl | rfl : c = 5 ∨ c = 6 ∨ c = 7 := by omega
    all_goals exact bad (p := (1, 0)) rfl (by decide)
/-- a new cell keeps all -/
theorem kI.new (hT : e_Has kTy u) (hA : ∀ a, 0 ≤ a → a ≤ 3 → aR0 u a) (hJ : ∀ a j, 0 ≤ a → a ≤ 3 → 0 ≤ j → j < u (17 * a + 86) 8 → jC u (17 * a + j + 97)) (hF : fK u) (h16 : ∀ p, 0 ≤ p → p ≤ 63 → u 16 p = 0) (h74 : u 74 1 = 0) (hC : kCo u OP OD CL) (hK : ∀ t, 0 ≤ t → t ≤ 15 → u (6 * t + 154) 1 = 0) : kI u OP OD CL 0 (-1) := by
  refine ⟨hT, fun a g1 g2 => ?_, hF, fun p g1 g2 g3 => absurd (h16 p g1 g2) g3, fun i g1 g2 g3 => by omega, fun _ a g1 g2 _ => (hA a g1 g2).1.1, hC, fun j g1 g2 => by omega, fun t g1 g2 => ?_⟩
  · have hn := kn_joints hT ⟨g1, g2⟩
    obtain ⟨⟨h11, h13, h14, h15, h16', h17, h18, h19⟩, hj, hv, hk, hk2⟩ := hA a g1 g2
    refine ⟨hk, hk2, ?_, fun g => absurd h11 g, fun g => by omega, fun g => by omega, fun g => by omega, fun g => by omega⟩
    rw [h11]
    intro i g3 g4
    have z := hJ a i g1 g2 g3 g4
    refine ⟨z, ?_⟩
    obtain ⟨z7, z8, z9⟩ := hj i g3 (by omega)
    unfold jC at z
    unfold jM joOk
    rw [z7, z8]
    exact ⟨by omega, fun _ => rfl, fun g => absurd g (by decide), fun g => absurd g (by decide)⟩
  · have z := hK t g1 g2
    exact ⟨⟨fun g => by omega, fun g => by omega, fun g => by omega⟩, fun g => by omega⟩
theorem fK.rf0 {w w' : eW} (e0 : w' 19 0 = w 19 0) (e1 : w' 19 1 = w 19 1) (b0 : 0 ≤ w 19 0 ∧ w 19 0 ≤ 4) (b1 : 0 ≤ w 19 1 ∧ w 19 1 ≤ 32) (hw : e_rf w w') (q : fK w) : fK w' := by
  refine ⟨fun b g1 g2 => ?_, fun p g1 g2 => ?_⟩
  · rw [e0] at g2
    obtain ⟨z1, z2⟩ := q.1 b g1 g2
    have e2 : w' 35 b = w 35 b := (kn1.of z1 (by decide) (by decide)).rf hw
    refine ⟨by rw [e2]; exact z1, fun i g3 g4 => ?_⟩
    rw [e2] at g4
    obtain ⟨z3, z4⟩ := z2 i g3 g4
    have e3 : w' (b + 31) i = w (b + 31) i := (show kn1 _ from by unfold kn1; omega).rf hw
    have e4 : w' 36 (w (b + 31) i) = w 36 (w (b + 31) i) := (show kn1 _ from by unfold kn1; omega).rf hw
    rw [e3, e1, e4]
    exact ⟨z3, z4⟩
  · rw [e1] at g2
    obtain ⟨z1, z2, z3⟩ := q.2 p g1 g2
    have e2 : w' 36 p = w 36 p := (kn1.of z1 (by decide) (by decide)).rf hw
    refine ⟨by rw [e2]; exact z1, fun g => ?_, fun g => ?_⟩
    · rw [e2] at g
      obtain ⟨z4, z5⟩ := z2 g
      rw [e2, e0, z5.rf hw]
      exact ⟨z4, z5⟩
    · rw [e2] at g
      obtain ⟨z4, z5⟩ := z3 g
      rw [z4.rf hw, z5.rf hw]
      exact ⟨z4, z5⟩
/-- what is known behind rewind keeps all -/
theorem kI.S0 (hT : e_Has kTy w) (hTv : e_Has kTy v) (hc : cfI w OP OD CL) (hv : ∀ c k, Kc c k → v c k = w c k) (h : rw0 w v) : kI (e_pz (Kw1 w) v) OP OD CL 0 (-1) := by
  have hP : ∀ a, 0 ≤ a → a ≤ 3 → aR0 (PA w a) a := fun a g1 g2 => (PA_ok hT ⟨g1, g2⟩ (hc.1 a g1 g2).1 (hc.1 a g1 g2).2).2
  have hf := PF_ok hT hc.2.2.2.1
  have eK : ∀ c k, Kc c k → e_pz (Kw1 w) v c k = w c k := fun c k g => (e_pz_in (Or.inl g)).trans (hv c k g)
  have hT0 : e_Has kTy (e_pz (Kw1 w) v) := fun c k hl => by rw [e_pz_in (typ_K1 hP hl)]; exact hTv c k hl
  have nok : ¬ e_okz 2147483648 = true := by decide
  have pz : ∀ c k, e_okz (e_pz Kc w c k) = true → Kc c k ∧ e_pz Kc w c k = w c k := fun c k g => by
    by_cases q : Kc c k
    · exact ⟨q, e_pz_in q⟩
    · unfold e_pz at g
      rw [if_neg q] at g
      exact absurd g nok
  have rA : ∀ a, 0 ≤ a → a ≤ 3 → e_rf (PA w a) (e_pz (Kw1 w) v) := fun a g1 g2 c k g => by
    by_cases q : kAr a c k
    · rw [e_pz_in (Or.inr (Or.inl ⟨a, ⟨g1, g2⟩, q, g⟩))]
      exact (h.1 a g1 g2).2.1 c k q g
    · have e := (PA_ok hT ⟨g1, g2⟩ (hc.1 a g1 g2).1 (hc.1 a g1 g2).2).1 c k q
      rw [e] at g
      obtain ⟨g3, g4⟩ := pz c k g
      rw [eK c k g3, e, g4]
  have rF : e_rf (PF w) (e_pz (Kw1 w) v) := fun c k g => by
    by_cases q : kFl c k
    · rw [e_pz_in (Or.inr (Or.inr (Or.inl ⟨q, g⟩)))]
      exact h.2.1.2 c k q g
    · have e := hf.1 c k q
      rw [e] at g
      obtain ⟨g3, g4⟩ := pz c k g
      rw [eK c k g3, e, g4]
  have k86 : ∀ a, 0 ≤ a → a ≤ 3 → Kc (17 * a + 86) 8 := fun a g1 g2 => Kc_0 ⟨by omega, by unfold kNh kNw; omega⟩
  have k19 : ∀ k, Kc 19 k := fun k => Kc_0 ⟨by omega, by unfold kNh kNw; omega⟩
  obtain ⟨-, -, p1, c1, ⟨d1, d2, d3⟩, -⟩ := h
  refine kI.new hT0 (fun a g1 g2 => ?_) (fun a j g1 g2 g3 g4 => ?_) ?_ (fun p g1 g2 => ?_) ?_ (hc.2.2.1.eq (fun c k g => eK c k (dC_Kc g))) (fun t g1 g2 => ?_)
  · obtain ⟨⟨h11, h13, h14, h15, h16, h17, h18, h19⟩, hj, hv', hk, hk2⟩ := hP a g1 g2
    have r := rA a g1 g2
    have e8 : e_pz (Kw1 w) v (17 * a + 86) 8 = PA w a (17 * a + 86) 8 := by
      rw [eK _ _ (k86 a g1 g2), (PA_ok hT ⟨g1, g2⟩ (hc.1 a g1 g2).1 (hc.1 a g1 g2).2).1 _ _ (by unfold kAr; omega), e_pz_in (k86 a g1 g2)]
    have e : ∀ c k z, PA w a c k = z → e_okz z = true → e_pz (Kw1 w) v c k = z := fun c k z g3 g4 => by rw [r c k (okz_of g3 g4), g3]
    refine ⟨⟨e _ _ _ h11 rfl, e _ _ _ h13 rfl, e _ _ _ h14 rfl, e _ _ _ h15 rfl, e _ _ _ h16 rfl, e _ _ _ h17 rfl, e _ _ _ h18 rfl, e _ _ _ h19 rfl⟩, fun j g3 g4 => ⟨e _ _ _ (hj j g3 g4).1 rfl, e _ _ _ (hj j g3 g4).2.1 rfl, e _ _ _ (hj j g3 g4).2.2 rfl⟩, fun k g3 g4 => e _ _ _ (hv' k g3 g4) rfl, ?_, ?_⟩
    · unfold aK at hk ⊢
      rw [e8]
      exact ⟨hk.1.rf r, hk.2.rf r⟩
    · unfold oK at hk2 ⊢
      rw [e8]
      exact ⟨hk2.1.rf r, hk2.2.rf r⟩
  · have hn := kn_joints hT ⟨g1, g2⟩
    rw [eK _ _ (k86 a g1 g2)] at g4
    have z := hc.2.1 a j g1 g2 g3 g4
    unfold jC at z ⊢
    rw [eK _ 1 (Kc_0 ⟨by omega, by unfold kNh kNw; omega⟩), eK _ 2 (Kc_0 ⟨by omega, by unfold kNh kNw; omega⟩), eK _ 5 (Kc_0 ⟨by omega, by unfold kNh kNw; omega⟩), eK _ 6 (Kc_0 ⟨by omega, by unfold kNh kNw; omega⟩)]
    exact z
  · have e0 : PF w 19 0 = w 19 0 := (hf.1 19 0 (by unfold kFl; omega)).trans (e_pz_in (k19 0))
    have e1 : PF w 19 1 = w 19 1 := (hf.1 19 1 (by unfold kFl; omega)).trans (e_pz_in (k19 1))
    have b0 := e_Has.get hT (c := 19) (k := 0) (lo := 0) (hi := 4) rfl (by decide)
    have b1 := e_Has.get hT (c := 19) (k := 1) (lo := 0) (hi := 32) rfl (by decide)
    exact fK.rf0 (by rw [eK _ _ (k19 0), e0]) (by rw [eK _ _ (k19 1), e1]) (by omega) (by omega) rF hf.2
  · rw [e_pz_in (Or.inr (Or.inr (Or.inr (Or.inl ⟨by omega, by omega⟩))))]
    exact p1.1.2.1 p g1 (by omega)
  · rw [e_pz_in (Or.inr (Or.inr (Or.inr (Or.inr (Or.inl ⟨rfl, by omega⟩)))))]
    exact c1.1.2.1
  · rw [e_pz_in (Or.inr (Or.inr (Or.inr (Or.inr (Or.inr (Or.inr (Or.inr (Or.inr (Or.inr ⟨t, ⟨g1, g2⟩, rfl, by omega⟩)))))))))]
    exact (d1 t g1 g2).1.1
/-- where the book begins -/
def bas (w s : eW) : Prop := ∀ u, (∀ c k, Kc c k → u c k = w c k) → e_Has kTy u → e_Ok 20 elay kcode eI 26 252 (0, [(0, (1, 0))], [], u) (fun r v => r = [] ∧ e_fr kNw u v ∧ e_Has kTy v ∧ (∀ c k, e_out elay c k → v c k = u c k) ∧ e_rf s v ∧ ∀ a, 0 ≤ a → a ≤ 3 → aP v a)
theorem bas.mk (hT : e_Has kTy w) (hc : cfI w OP OD CL) : ∃ s, bas w s ∧ kI s OP OD CL 0 (-1) ∧ s 74 0 = 0 ∧ s 74 1 = 0 := by
  obtain ⟨n, r, v, h1, -, h2, h3, h4, h5⟩ := c_252 (d := 26) (by decide) hT hc.1 hc.2.2.2.1
  have hv := Kc.of (h2.mono (fun c k g => Or.inl g)) hT h3 h4
  have e74 : ∀ k, (k = 0 ∨ k = 1) → e_pz (Kw1 w) v 74 k = v 74 k := fun k g => e_pz_in (Or.inr (Or.inr (Or.inr (Or.inr (Or.inl ⟨rfl, by omega⟩)))))
  refine ⟨e_pz (Kw1 w) v, fun u hu hTu => ?_, kI.S0 hT h3 hc hv h5, (e74 0 (by omega)).trans h5.2.2.2.1.1.1, (e74 1 (by omega)).trans h5.2.2.2.1.1.2.1⟩
  have hcu := hc.eq hu hT
  refine (c_252 (d := 26) (by decide) hTu hcu.1 hcu.2.2.2.1).imp (fun r' v' q => ?_)
  obtain ⟨q1, q2, q3, q4, q5⟩ := q
  refine ⟨q1, q2, q3, q4, fun c k g => ?_, fun a g1 g2 => (q5.1 a g1 g2).2.2⟩
  have hv' := Kc.of (q2.mono (fun c k g => Or.inl g)) hTu q3 q4
  by_cases q : Kw1 w c k
  · rw [e_pz_in q]
    exact rw0.same hu hv hv' hc h5 q5 c k q
  · unfold e_pz at g
    rw [if_neg q] at g
    exact absurd g (by decide)
end D4
end
