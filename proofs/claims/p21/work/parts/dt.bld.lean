noncomputable section
/-! the class: what is kept while a cell is built -/
def bA1 (w : eW) (a : Int) : Prop := (kn1 (w (17 * a + 88) 0) ∧ kn1 (w (17 * a + 89) 0)) ∧ w (17 * a + 86) 17 = -1 ∧ aK w a ∧ ∀ j, 0 ≤ j → j < w (17 * a + 86) 8 → jC w (17 * a + j + 97)
def bA (w : eW) : Prop := ∀ a, 0 ≤ a → a ≤ 3 → bA1 w a
def bC (w : eW) : Prop := isCd (w 1 3) ∧ (∀ a, 0 ≤ a → a ≤ 3 → codK w (w (17 * a + 86) 7) ∧ w (17 * a + 86) 7 ≠ w 1 3) ∧ ∀ a b, 0 ≤ a → a ≤ 3 → 0 ≤ b → b ≤ 3 → a ≠ b → w (17 * a + 86) 7 ≠ w (17 * b + 86) 7
def bP (w : eW) : Prop := pTo w ∧ (∀ p, 0 ≤ p → p ≤ 63 → ∃ k, (0 ≤ k ∧ k ≤ 63) ∧ w 18 k = p) ∧ kAc w
def bF (w : eW) : Prop := fFt w ∧ fKn w (w 19 1)
def kBld (w : eW) : Prop := bA w ∧ bC w ∧ bP w ∧ bF w ∧ w 262 0 = 0
def dBa (c k : Int) : Prop := 86 ≤ c ∧ c ≤ 153 ∧ (((c - 86) % 17 = 0 ∧ (k = 8 ∨ k = 17)) ∨ (c - 86) % 17 = 2 ∨ (c - 86) % 17 = 3 ∨ (11 ≤ (c - 86) % 17 ∧ (k = 1 ∨ k = 2 ∨ k = 5 ∨ k = 6)))
def dBc (c k : Int) : Prop := (c = 1 ∧ k = 3) ∨ (2 ≤ c ∧ c ≤ 4) ∨ (86 ≤ c ∧ c ≤ 153 ∧ (((c - 86) % 17 = 0 ∧ k = 7) ∨ (8 ≤ (c - 86) % 17 ∧ (c - 86) % 17 ≤ 10)))
def dBp (c _k : Int) : Prop := c = 15 ∨ c = 18
def dBf (c k : Int) : Prop := (c = 19 ∧ (k = 0 ∨ k = 1)) ∨ (31 ≤ c ∧ c ≤ 37) ∨ c = 39 ∨ c = 40 ∨ (42 ≤ c ∧ c ≤ 73 ∧ k = 0)
section DT
variable {w w' : eW} {a : Int}
theorem bA1.eq (ga : 0 ≤ a ∧ a ≤ 3) (hT : e_Has kTy w) (h : ∀ c k, dBa c k → 17 * a + 86 ≤ c → c ≤ 17 * a + 102 → w' c k = w c k) (q : bA1 w a) : bA1 w' a := by
  obtain ⟨q1, q2, q3, q4⟩ := q
  have hn := kn_joints hT ga
  have e8 : w' (17 * a + 86) 8 = w (17 * a + 86) 8 := h _ _ (by unfold dBa; omega) (by omega) (by omega)
  refine ⟨?_, (h _ _ (by unfold dBa; omega) (by omega) (by omega)).trans q2, ?_, fun j g1 g2 => ?_⟩
  · rw [h _ _ (by unfold dBa; omega) (by omega) (by omega), h (17 * a + 89) _ (by unfold dBa; omega) (by omega) (by omega)]
    exact q1
  · unfold aK at q3 ⊢
    rw [e8]
    exact ⟨fun i g1 g2 => by rw [h _ _ (by unfold dBa; omega) (by omega) (by omega)]; exact q3.1 i g1 g2, fun i g1 g2 => by rw [h _ _ (by unfold dBa; omega) (by omega) (by omega)]; exact q3.2 i g1 g2⟩
  · rw [e8] at g2
    have z := q4 j g1 g2
    unfold jC at z ⊢
    rw [h _ 1 (by unfold dBa; omega) (by omega) (by omega), h _ 2 (by unfold dBa; omega) (by omega) (by omega), h _ 5 (by unfold dBa; omega) (by omega) (by omega), h _ 6 (by unfold dBa; omega) (by omega) (by omega)]
    exact z
theorem bA.eq (hT : e_Has kTy w) (h : ∀ c k, dBa c k → w' c k = w c k) (q : bA w) : bA w' := fun a g1 g2 => (q a g1 g2).eq ⟨g1, g2⟩ hT (fun c k g _ _ => h c k g)
theorem bC.cd (q : bC w) {a : Int} (g1 : 0 ≤ a) (g2 : a ≤ 3) : isCd (w (17 * a + 86) 7) := by
  obtain ⟨op, od, cl, k, -, -⟩ := (q.2.1 a g1 g2).1
  exact k.1
theorem bC.eq (h : ∀ c k, dBc c k → w' c k = w c k) (q : bC w) : bC w' := by
  have hc := fun a g1 g2 => q.cd (a := a) g1 g2
  obtain ⟨q1, q2, q3⟩ := q
  have e : ∀ a, 0 ≤ a → a ≤ 3 → w' (17 * a + 86) 7 = w (17 * a + 86) 7 := fun a g1 g2 => h _ _ (by unfold dBc; omega)
  have e1 : w' 1 3 = w 1 3 := h _ _ (by unfold dBc; omega)
  refine ⟨by rw [e1]; exact q1, fun a g1 g2 => ?_, fun a b g1 g2 g3 g4 g5 => ?_⟩
  · rw [e a g1 g2, e1]
    have k := hc a g1 g2
    unfold isCd at k
    exact ⟨(q2 a g1 g2).1.eq (fun c k' g => h c k' (by unfold dBc; omega)), (q2 a g1 g2).2⟩
  · rw [e a g1 g2, e b g3 g4]; exact q3 a b g1 g2 g3 g4 g5
theorem bP.eq (hT : e_Has kTy w) (h : ∀ c k, dBp c k → w' c k = w c k) (q : bP w) : bP w' := by
  obtain ⟨q1, q2, q3⟩ := q
  refine ⟨fun i g1 g2 g3 => ?_, fun p g1 g2 => ?_, q3.eq (fun k _ _ => h _ _ (Or.inl rfl))⟩
  · rw [h 18 i (Or.inr rfl), h 15 _ (Or.inl rfl)] at g3 ⊢
    obtain ⟨k, k1, k2⟩ := q1 i g1 g2 g3
    exact ⟨k, k1, by rw [h 18 k (Or.inr rfl)]; exact k2⟩
  · obtain ⟨k, k1, k2⟩ := q2 p g1 g2
    exact ⟨k, k1, by rw [h 18 k (Or.inr rfl)]; exact k2⟩
theorem fKn.eq0 {n : Int} (hB : w 19 0 ≤ 4) (h0 : w' 19 0 = w 19 0) (h : ∀ c k, (31 ≤ c ∧ c ≤ 37) ∨ c = 39 ∨ c = 40 → w' c k = w c k) (q : fKn w n) : fKn w' n := by
  obtain ⟨q1, q2⟩ := q
  refine ⟨fun b g1 g2 => ?_, fun p g1 g2 => (q2 p g1 g2).eq (fun c k g _ => h c k (by omega)) h0⟩
  rw [h0] at g2
  have z := q1 b g1 g2
  rw [h 35 b (by omega)]
  refine ⟨z.1, fun i k1 k2 => ?_⟩
  rw [h (b + 31) i (by omega), h 36 _ (by omega)]
  exact z.2 i k1 k2
theorem bF.eq (hT : e_Has kTy w) (h : ∀ c k, dBf c k → w' c k = w c k) (q : bF w) : bF w' := by
  have hB := e_Has.get hT (c := 19) (k := 0) (lo := 0) (hi := 4) rfl (by decide)
  have hm := e_Has.get hT (c := 19) (k := 1) (lo := 0) (hi := 32) rfl (by decide)
  have e0 : w' 19 0 = w 19 0 := h _ _ (by unfold dBf; omega)
  have e1 : w' 19 1 = w 19 1 := h _ _ (by unfold dBf; omega)
  refine ⟨fun p g1 g2 g3 => ?_, ?_⟩
  · rw [e1] at g2
    rw [h (p + 42) 0 (by unfold dBf; omega)] at g3 ⊢
    rw [e0]
    exact q.1 p g1 g2 g3
  · rw [e1]
    exact q.2.eq0 hB.2 e0 (fun c k g => h c k (by unfold dBf; omega))
theorem kBld.eq (hT : e_Has kTy w) (h : ∀ c k, dBa c k ∨ dBc c k ∨ dBp c k ∨ dBf c k ∨ (c = 262 ∧ k = 0) → w' c k = w c k) (q : kBld w) : kBld w' := by
  obtain ⟨q1, q2, q3, q4, q5⟩ := q
  exact ⟨q1.eq hT (fun c k g => h c k (Or.inl g)), q2.eq (fun c k g => h c k (Or.inr (Or.inl g))), q3.eq hT (fun c k g => h c k (Or.inr (Or.inr (Or.inl g)))), q4.eq hT (fun c k g => h c k (Or.inr (Or.inr (Or.inr (Or.inl g))))), (h 262 0 (Or.inr (Or.inr (Or.inr (Or.inr ⟨rfl, rfl⟩))))).trans q5⟩
theorem kBld.fr {S : Int → Int → Prop} (hT : e_Has kTy w) (f : e_fr S w w') (h : ∀ c k, S c k → ¬ (dBa c k ∨ dBc c k ∨ dBp c k ∨ dBf c k ∨ (c = 262 ∧ k = 0))) (q : kBld w) : kBld w' := q.eq hT (fun c k g => f c k (fun g2 => h c k g2 g))
/-- a program in order, or none, for every arm: as the open cell asks -/
theorem bC.co (q : bC w) : ∃ OP OD CL, kCo w OP OD CL := by
  obtain ⟨p0, d0, l0, h0⟩ := (q.2.1 0 (by omega) (by omega)).1
  obtain ⟨p1, d1, l1, h1⟩ := (q.2.1 1 (by omega) (by omega)).1
  obtain ⟨p2, d2, l2, h2⟩ := (q.2.1 2 (by omega) (by omega)).1
  obtain ⟨p3, d3, l3, h3⟩ := (q.2.1 3 (by omega) (by omega)).1
  refine ⟨fun a => if a = 0 then p0 else if a = 1 then p1 else if a = 2 then p2 else p3, fun a => if a = 0 then d0 else if a = 1 then d1 else if a = 2 then d2 else d3, fun a => if a = 0 then l0 else if a = 1 then l1 else if a = 2 then l2 else l3, fun a g1 g2 => ?_⟩
  obtain rfl | rfl | rfl | rfl : a = 0 ∨ a = 1 ∨ a = 2 ∨ a = 3 := by omega
  · exact h0
  · exact h1
  · exact h2
  · exact h3
theorem kBld.cf (q : kBld w) : ∃ OP OD CL, cfI w OP OD CL := by
  obtain ⟨OP, OD, CL, k⟩ := q.2.1.co
  exact ⟨OP, OD, CL, fun a g1 g2 => (q.1 a g1 g2).1, fun a j g1 g2 g3 g4 => (q.1 a g1 g2).2.2.2 j g3 g4, k, q.2.2.2.1.1, q.2.2.1.1, q.2.2.1.2.1⟩
theorem kBld.lk (hT : e_Has kTy w) (hAll : ∀ c k, 0 ≤ c → c ≤ 274 → kn1 (w c k)) (q : kBld w) : lkK w := by
  have hm := e_Has.get hT (c := 19) (k := 1) (lo := 0) (hi := 32) rfl (by decide)
  exact ⟨hT, hAll, fun a g1 g2 => q.2.1.cd g1 g2, fun a g1 g2 g => by have := (q.1 a g1 g2).2.1; omega, fun a g1 g2 => (q.1 a g1 g2).2.2.1, q.2.2.2.1.2.fK rfl hm.2⟩
theorem codK.zero {cd : Int} (hc : isCd cd) (h0 : w cd 0 = 0) (h1 : w cd 1 = 0) : codK w cd := by
  obtain ⟨op, ho⟩ : ∃ f : Int → Int, ∀ p, f p = 43 := ⟨fun _ => 43, fun _ => rfl⟩
  obtain ⟨od, hd⟩ : ∃ f : Int → Int, ∀ p, f p = 0 := ⟨fun _ => 0, fun _ => rfl⟩
  obtain ⟨cl, hl⟩ : ∃ f : Int → Int, ∀ p, f p = 0 := ⟨fun _ => 0, fun _ => rfl⟩
  refine ⟨op, od, cl, ⟨hc, fun p => ⟨fun a b => by omega, fun _ => ⟨ho p, hd p⟩⟩⟩, ⟨by have := ho 0; omega, fun q _ => by have := hl q; omega, fun p => ?_⟩, fun n a b => by omega, fun p h => by have := ho p; omega⟩
  have h1 := ho p
  have h2 := hd p
  have h3 := hl p
  have h4 := ho (od p)
  have h5 := ho (p + 1)
  have h6 := hl (p + 1)
  have h7 := hl (od p)
  exact ⟨fun h => by omega, fun h => by omega, fun h => by omega, fun h => by omega, fun h => by omega, fun h => by omega, fun h => by omega, fun h => by omega, fun h => by omega, fun h => by omega⟩
theorem kBld.pace {a b c e : Int} (hT : e_Has kTy w) (q : kBld w) (f : e_fr (kBj a b) w w') (g : (0 ≤ a ∧ a < w 0 11) ∧ (0 ≤ b ∧ b < w (17 * a + 86) 8) ∧ (1 ≤ c ∧ c ≤ 2000) ∧ (1 ≤ e ∧ e ≤ 2000)) (e5 : w' (17 * a + b + 97) 5 = c) (e6 : w' (17 * a + b + 97) 6 = e) : kBld w' := by
  have h0 := e_Has.get hT (c := 0) (k := 11) (lo := 0) (hi := 4) rfl (by decide)
  obtain ⟨q1, q2, q3, q4, q5⟩ := q
  have hn := kn_joints hT (a := a) (by omega)
  refine ⟨fun x g1 g2 => ?_, q2.eq (fun c k g => f c k (by unfold dBc at g; unfold kBj; omega)), q3.eq hT (fun c k g => f c k (by unfold dBp at g; unfold kBj; omega)), q4.eq hT (fun c k g => f c k (by unfold dBf at g; unfold kBj; omega)), (f _ _ (by unfold kBj; omega)).trans q5⟩
  by_cases ex : x = a
  · subst ex
    obtain ⟨p1, p2, p3, p4⟩ := q1 x g1 g2
    have e8 : w' (17 * x + 86) 8 = w (17 * x + 86) 8 := f _ _ (by unfold kBj; omega)
    refine ⟨?_, (f _ _ (by unfold kBj; omega)).trans p2, ?_, fun j k1 k2 => ?_⟩
    · rw [f _ _ (by unfold kBj; omega), f (17 * x + 89) _ (by unfold kBj; omega)]; exact p1
    · unfold aK at p3 ⊢
      rw [e8]
      exact ⟨fun i k1 k2 => by rw [f _ _ (by unfold kBj; omega)]; exact p3.1 i k1 k2, fun i k1 k2 => by rw [f _ _ (by unfold kBj; omega)]; exact p3.2 i k1 k2⟩
    · rw [e8] at k2
      have z := p4 j k1 k2
      unfold jC at z ⊢
      rw [f _ 1 (by unfold kBj; omega), f _ 2 (by unfold kBj; omega)]
      by_cases ej : j = b
      · rw [ej] at z ⊢
        rw [e5, e6]
        exact ⟨z.1, g.2.2⟩
      · rw [f _ 5 (by unfold kBj; omega), f _ 6 (by unfold kBj; omega)]
        exact z
  · exact (q1 x g1 g2).eq ⟨g1, g2⟩ hT (fun c k g h1 h2 => f c k (by unfold kBj; omega))
theorem kBld.joint {a n : Int} (hT : e_Has kTy w) (q : kBld w) (f : e_fr (kAj a) w w') (hn : n = w (17 * a + 86) 8) (g : (0 ≤ a ∧ a < w 0 11) ∧ n ≤ 5) (e8 : w' (17 * a + 86) 8 = n + 1) (hj : jC w' (17 * a + n + 97)) (ho : ∀ j k, 0 ≤ j → j ≤ 5 → j ≠ n → w' (17 * a + j + 97) k = w (17 * a + j + 97) k) (hk : aK w' a) : kBld w' := by
  have h0 := e_Has.get hT (c := 0) (k := 11) (lo := 0) (hi := 4) rfl (by decide)
  obtain ⟨q1, q2, q3, q4, q5⟩ := q
  have hjn := kn_joints hT (a := a) (by omega)
  refine ⟨fun x g1 g2 => ?_, q2.eq (fun c k g => f c k (by unfold dBc at g; unfold kAj; omega)), q3.eq hT (fun c k g => f c k (by unfold dBp at g; unfold kAj; omega)), q4.eq hT (fun c k g => f c k (by unfold dBf at g; unfold kAj; omega)), (f _ _ (by unfold kAj; omega)).trans q5⟩
  by_cases ex : x = a
  · subst ex
    obtain ⟨p1, p2, p3, p4⟩ := q1 x g1 g2
    refine ⟨?_, (f _ _ (by unfold kAj; omega)).trans p2, hk, fun j k1 k2 => ?_⟩
    · rw [f _ _ (by unfold kAj; omega), f (17 * x + 89) _ (by unfold kAj; omega)]; exact p1
    · by_cases ej : j = n
      · rw [ej]; exact hj
      · have z := p4 j k1 (by omega)
        unfold jC at z ⊢
        rw [ho j 1 (by omega) (by omega) ej, ho j 2 (by omega) (by omega) ej, ho j 5 (by omega) (by omega) ej, ho j 6 (by omega) (by omega) ej]
        exact z
  · exact (q1 x g1 g2).eq ⟨g1, g2⟩ hT (fun c k g h1 h2 => f c k (by unfold kAj; omega))
theorem kBld.arm {n cd : Int} (hT : e_Has kTy w) (q : kBld w) (hc : w (17 * n + 86) 7 = cd) (f : e_fr (kAa n cd) w w') (g : 0 ≤ n ∧ n ≤ 3) (e8 : w' (17 * n + 86) 8 = 0) (hx : kn1 (w' (17 * n + 88) 0) ∧ kn1 (w' (17 * n + 89) 0)) (hr : aR0 w' n) (h0 : w' cd 0 = 0) (h1 : w' cd 1 = 0) : kBld w' := by
  obtain ⟨q1, q2, q3, q4, q5⟩ := q
  have hcd := q2.cd g.1 g.2
  rw [hc] at hcd
  have hcd2 := hcd
  unfold isCd at hcd2
  have fu : ∀ c k, ¬ (kMk n cd c k ∨ (c = 0 ∧ k = 11)) → w' c k = w c k := f
  refine ⟨fun x g1 g2 => ?_, ?_, q3.eq hT (fun c k g => fu c k (by unfold dBp at g; unfold kMk; omega)), q4.eq hT (fun c k g => fu c k (by unfold dBf at g; unfold kMk; omega)), (fu _ _ (by unfold kMk; omega)).trans q5⟩
  · by_cases ex : x = n
    · subst ex
      have z1 := hr.1
      have z4 := hr.2.2.2.1
      exact ⟨hx, by omega, z4, fun j k1 k2 => by omega⟩
    · exact (q1 x g1 g2).eq ⟨g1, g2⟩ hT (fun c k g h1 h2 => fu c k (by unfold dBa at g; unfold kMk; omega))
  · have e7 : ∀ a, 0 ≤ a → a ≤ 3 → w' (17 * a + 86) 7 = w (17 * a + 86) 7 := fun a g1 g2 => fu _ _ (by unfold kMk; omega)
    have e1 : w' 1 3 = w 1 3 := fu _ _ (by unfold kMk; omega)
    have hcs := fun a g1 g2 => q2.cd (a := a) g1 g2
    obtain ⟨c1, c2, c3⟩ := q2
    refine ⟨by rw [e1]; exact c1, fun a g1 g2 => ?_, fun a b g1 g2 g3 g4 g5 => by rw [e7 a g1 g2, e7 b g3 g4]; exact c3 a b g1 g2 g3 g4 g5⟩
    rw [e7 a g1 g2, e1]
    refine ⟨?_, (c2 a g1 g2).2⟩
    by_cases ea : a = n
    · rw [ea, hc]; exact codK.zero hcd h0 h1
    · have k := hcs a g1 g2
      have d := c3 a n g1 g2 g.1 g.2 ea
      rw [hc] at d
      unfold isCd at k
      exact (c2 a g1 g2).1.eq (fun c k' g => fu c k' (by unfold kMk; omega))
theorem kBld.belt (hT : e_Has kTy w) (q : kBld w) (f : e_fr kAb w w') (e0 : w' 19 0 = w 19 0 + 1) (e35 : w' 35 (w 19 0) = 0) (hb : w 19 0 ≤ 3) (eo : ∀ k, k ≠ w 19 0 → w' 35 k = w 35 k) : kBld w' := by
  obtain ⟨q1, q2, q3, ⟨q4, q6⟩, q5⟩ := q
  have hB := e_Has.get hT (c := 19) (k := 0) (lo := 0) (hi := 4) rfl (by decide)
  have hm := e_Has.get hT (c := 19) (k := 1) (lo := 0) (hi := 32) rfl (by decide)
  have e1 : w' 19 1 = w 19 1 := f _ _ (by unfold kAb; omega)
  refine ⟨q1.eq hT (fun c k g => f c k (by unfold dBa at g; unfold kAb; omega)), q2.eq (fun c k g => f c k (by unfold dBc at g; unfold kAb; omega)), q3.eq hT (fun c k g => f c k (by unfold dBp at g; unfold kAb; omega)), ⟨fun p g1 g2 g3 => ?_, ?_⟩, (f _ _ (by unfold kAb; omega)).trans q5⟩
  · rw [e1] at g2
    rw [f (p + 42) 0 (by unfold kAb; omega)] at g3 ⊢
    have := q4 p g1 g2 g3
    omega
  · rw [e1]
    refine ⟨fun b g1 g2 => ?_, fun p g1 g2 => ?_⟩
    · by_cases eb : b = w 19 0
      · rw [eb, e35]; exact ⟨by omega, fun i k1 k2 => by omega⟩
      · have z := q6.1 b g1 (by omega)
        rw [eo b eb]
        refine ⟨z.1, fun i k1 k2 => ?_⟩
        rw [f (b + 31) i (by unfold kAb; omega), f 36 _ (by unfold kAb; omega)]
        exact z.2 i k1 k2
    · have z := q6.2 p g1 g2
      unfold fP at z ⊢
      rw [f 36 p (by unfold kAb; omega), f 37 p (by unfold kAb; omega), f 39 p (by unfold kAb; omega), f 40 p (by unfold kAb; omega)]
      exact ⟨z.1, fun h => ⟨by have := (z.2.1 h).1; omega, (z.2.1 h).2⟩, z.2.2⟩
def kAp (c k : Int) : Prop := (c = 19 ∧ k = 1) ∨ (31 ≤ c ∧ c ≤ 40) ∨ (42 ≤ c ∧ c ≤ 73)
theorem kBld.part {n : Int} (hT : e_Has kTy w) (q : kBld w) (f : e_fr kAp w w') (hn : w 19 1 = n) (e1 : w' 19 1 = n + 1) (hf : fKn w' (n + 1)) (h0 : w' (n + 42) 0 < 4 → w' (n + 42) 0 < w 19 0) (ho : ∀ p, 0 ≤ p → p < n → w' (p + 42) 0 = w (p + 42) 0) : kBld w' := by
  obtain ⟨q1, q2, q3, ⟨q4, q6⟩, q5⟩ := q
  have e0 : w' 19 0 = w 19 0 := f _ _ (by unfold kAp; omega)
  refine ⟨q1.eq hT (fun c k g => f c k (by unfold dBa at g; unfold kAp; omega)), q2.eq (fun c k g => f c k (by unfold dBc at g; unfold kAp; omega)), q3.eq hT (fun c k g => f c k (by unfold dBp at g; unfold kAp; omega)), ⟨fun p g1 g2 g3 => ?_, by rw [e1]; exact hf⟩, (f _ _ (by unfold kAp; omega)).trans q5⟩
  by_cases ep : p = n
  · rw [ep] at g3 ⊢; rw [e0]; exact h0 g3
  · rw [ho p g1 (by omega)] at g3 ⊢
    rw [e0]
    exact q4 p g1 (by omega) g3
theorem kBld.wire (hT : e_Has kTy w) (q : kBld w) (f : e_fr kCn w w') (h : bP w') : kBld w' := by
  obtain ⟨q1, q2, q3, q4, q5⟩ := q
  exact ⟨q1.eq hT (fun c k g => f c k (by unfold dBa at g; unfold kCn; omega)), q2.eq (fun c k g => f c k (by unfold dBc at g; unfold kCn; omega)), h, q4.eq hT (fun c k g => f c k (by unfold dBf at g; unfold kCn; omega)), (f _ _ (by unfold kCn; omega)).trans q5⟩
theorem kBld.prog {cd n : Int} (hT : e_Has kTy w) (q : kBld w) (hc : w 1 3 = cd) (f : e_fr (kPg cd n) w w') (g : 0 ≤ n ∧ n ≤ 3) (h : (w' 1 3 = cd ∧ w' (17 * n + 86) 7 = w (17 * n + 86) 7) ∨ (w' 1 3 = w (17 * n + 86) 7 ∧ w' (17 * n + 86) 7 = cd ∧ codK w' cd)) : kBld w' := by
  obtain ⟨q1, q2, q3, q4, q5⟩ := q
  have fu : ∀ c k, ¬ (kRr cd c k ∨ (c = 1 ∧ (k = 0 ∨ k = 3)) ∨ (c = 17 * n + 86 ∧ k = 7)) → w' c k = w c k := f
  have hcs := fun a g1 g2 => q2.cd (a := a) g1 g2
  obtain ⟨c1, c2, c3⟩ := q2
  rw [hc] at c1
  have hcd2 := c1
  unfold isCd at hcd2
  have e7 : ∀ a, 0 ≤ a → a ≤ 3 → a ≠ n → w' (17 * a + 86) 7 = w (17 * a + 86) 7 := fun a g1 g2 g3 => fu _ _ (by unfold kRr; omega)
  have hco : ∀ a, 0 ≤ a → a ≤ 3 → codK w' (w (17 * a + 86) 7) := fun a g1 g2 => by
    have k := hcs a g1 g2
    have d := (c2 a g1 g2).2
    rw [hc] at d
    unfold isCd at k
    exact (c2 a g1 g2).1.eq (fun c k' g => fu c k' (by unfold kRr; omega))
  have hno := hcs n g.1 g.2
  refine ⟨q1.eq hT (fun c k g => fu c k (by unfold dBa at g; unfold kRr; omega)), ?_, q3.eq hT (fun c k g => fu c k (by unfold dBp at g; unfold kRr; omega)), q4.eq hT (fun c k g => fu c k (by unfold dBf at g; unfold kRr; omega)), (fu _ _ (by unfold kRr; omega)).trans q5⟩
  rcases h with ⟨h1, h2⟩ | ⟨h1, h2, h3⟩
  · have e8 : ∀ a, 0 ≤ a → a ≤ 3 → w' (17 * a + 86) 7 = w (17 * a + 86) 7 := fun a g1 g2 => by
      by_cases e : a = n
      · rw [e]; exact h2
      · exact e7 a g1 g2 e
    refine ⟨by rw [h1]; exact c1, fun a g1 g2 => ?_, fun a b g1 g2 g3 g4 g5 => by rw [e8 a g1 g2, e8 b g3 g4]; exact c3 a b g1 g2 g3 g4 g5⟩
    rw [e8 a g1 g2, h1]
    exact ⟨hco a g1 g2, by rw [← hc]; exact (c2 a g1 g2).2⟩
  · refine ⟨by rw [h1]; exact hno, fun a g1 g2 => ?_, fun a b g1 g2 g3 g4 g5 => ?_⟩
    · by_cases e : a = n
      · rw [e, h2, h1]; exact ⟨h3, fun z => (c2 n g.1 g.2).2 (by rw [hc]; exact z.symm)⟩
      · rw [e7 a g1 g2 e, h1]; exact ⟨hco a g1 g2, c3 a n g1 g2 g.1 g.2 e⟩
    · by_cases ea : a = n
      · rw [ea, h2, e7 b g3 g4 (by omega)]; exact fun z => (c2 b g3 g4).2 (by rw [hc]; exact z.symm)
      · by_cases eb : b = n
        · rw [eb, h2, e7 a g1 g2 ea]; exact fun z => (c2 a g1 g2).2 (by rw [hc]; exact z)
        · rw [e7 a g1 g2 ea, e7 b g3 g4 eb]; exact c3 a b g1 g2 g3 g4 g5
end DT
end
