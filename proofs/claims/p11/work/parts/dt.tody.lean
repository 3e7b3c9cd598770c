-- part dt
section
noncomputable section
/-! the class: what is kept while a cell is built -/
def bA1 (w : eW) (a : Int) : Prop := (kn1 (w (17 * a + 88) 0) ∧ kn1 (w (17 * a + 89) 0)) ∧ w (17 * a + 86) 17 = -1 ∧ aK w a ∧ ∀ j, 0 ≤ j → j < w (17 * a + 86) 8 → jC w (17 * a + j + 97)
def bA (w : eW) : Prop := ∀ a, 0 ≤ a → a ≤ 3 → bA1 w a
def bC (w : eW) : Prop := isCd (w 1 3) ∧ (∀ a, 0 ≤ a → a ≤ 3 → codK w (w (17 * a + 86) 7) ∧ w (17 * a + 86) 7 ≠ w 1 3) ∧ ∀ a b, 0 ≤ a → a ≤ 3 → 0 ≤ b → b ≤ 3 → a ≠ b → w (17 * a + 86) 7 ≠ w (17 * b + 86) 7
def bP (w : eW) : Prop := pTo w ∧ (∀ p, 0 ≤ p → p ≤ 63 → ∃ k, (0 ≤ k ∧ k ≤ 63) ∧ w 18 k = p) ∧ kAc w
def bF (w : eW) : Prop := fFt w ∧ fKn w (w 19 1)
def kBld (w : eW) : Prop := bA w ∧ bC w ∧ bP w ∧ bF w ∧ w 262 0 = 0
def dBa (c k : Int) : Prop := 86 ≤ c ∧ c ≤ 153 ∧ (((c - 86) % 17 = 0 ∧ (k = 8 ∨ k = 17)) ∨ (c - 86) % 17 = 2 ∨ (c - 86) % 17 = 3 ∨ (11 ≤ (c - 86) % 17 ∧ (k = 1 ∨ k = 2 ∨ k = 5 ∨ k = 6)))
def dBc (c k : Int) : Prop := (c = 1 ∧ k = 3) ∨ (2 ≤ c ∧ c ≤ 4) ∨ (86 ≤ c ∧ c ≤ 153 ∧ (((c - 86) % 17 = 0 ∧ k = 7) ∨ (8 ≤ (c - 86) % 17 ∧ (c - 86) % 17 ≤ 10)))
def dBp (c _k : Int) : Prop := c = 15 ∨ c = 18
def dBf (c k : Int) : Prop := (c = 19 ∧ (k = 0 ∨ k = 1)) ∨ (31 ≤ c ∧ c ≤ 37) ∨ c = 39 ∨ c = 40 ∨ (42 ≤ c ∧ c ≤ 73 ∧ k = 0)
section DT
variable {w w' : eW} {a : Int}
theorem bA1.eq (ga : 0 ≤ a ∧ a ≤ 3) (hT : e_Has kTy w) (h : ∀ c k, dBa c k → 17 * a + 86 ≤ c → c ≤ 17 * a + 102 → w' c k = w c k) (q : bA1 w a) : bA1 w' a := by
  obtain ⟨q1, q2, q3, q4⟩ := q
  have hn := kn_joints hT ga
  have e8 : w' (17 * a + 86) 8 = w (17 * a + 86) 8 := h _ _ (by unfold dBa; omega) (by omega) (by omega)
  refine ⟨?_, (h _ _ (by unfold dBa; omega) (by omega) (by omega)).trans q2, ?_, fun j g1 g2 => ?_⟩
  · rw [h _ _ (by unfold dBa; omega) (by omega) (by omega), h (17 * a + 89) _ (by unfold dBa; omega) (by omega) (by omega)]
    exact q1
  · unfold aK at q3 ⊢
    rw [e8]
    exact ⟨fun i g1 g2 => by rw [h _ _ (by unfold dBa; omega) (by omega) (by omega)]; exact q3.1 i g1 g2, fun i g1 g2 => by rw [h _ _ (by unfold dBa; omega) (by omega) (by omega)]; exact q3.2 i g1 g2⟩
  · rw [e8] at g2
    have z := q4 j g1 g2
    unfold jC at z ⊢
    rw [h _ 1 (by unfold dBa; omega) (by omega) (by omega), h _ 2 (by unfold dBa; omega) (by omega) (by omega), h _ 5 (by unfold dBa; omega) (by omega) (by omega), h _ 6 (by unfold dBa; omega) (by omega) (by omega)]
    exact z
theorem bA.eq (hT : e_Has kTy w) (h : ∀ c k, dBa c k → w' c k = w c k) (q : bA w) : bA w' := fun a g1 g2 => (q a g1 g2).eq ⟨g1, g2⟩ hT (fun c k g _ _ => h c k g)
theorem bC.cd (q : bC w) {a : Int} (g1 : 0 ≤ a) (g2 : a ≤ 3) : isCd (w (17 * a + 86) 7) := by
  obtain ⟨op, od, cl, k, -, -⟩ := (q.2.1 a g1 g2).1
  exact k.1
theorem bC.eq (h : ∀ c k, dBc c k → w' c k = w c k) (q : bC w) : bC w' := by
  have hc := fun a g1 g2 => q.cd (a := a) g1 g2
  obtain ⟨q1, q2, q3⟩ := q
  have e : ∀ a, 0 ≤ a → a ≤ 3 → w' (17 * a + 86) 7 = w (17 * a + 86) 7 := fun a g1 g2 => h _ _ (by unfold dBc; omega)
  have e1 : w' 1 3 = w 1 3 := h _ _ (by unfold dBc; omega)
  refine ⟨by rw [e1]; exact q1, fun a g1 g2 => ?_, fun a b g1 g2 g3 g4 g5 => ?_⟩
  · rw [e a g1 g2, e1]
    have k := hc a g1 g2
    unfold isCd at k
    exact ⟨(q2 a g1 g2).1.eq (fun c k' g => h c k' (by unfold dBc; omega)), (q2 a g1 g2).2⟩
  · rw [e a g1 g2, e b g3 g4]; exact q3 a b g1 g2 g3 g4 g5
theorem bP.eq (hT : e_Has kTy w) (h : ∀ c k, dBp c k → w' c k = w c k) (q : bP w) : bP w' := by
  obtain ⟨q1, q2, q3⟩ := q
  refine ⟨fun i g1 g2 g3 => ?_, fun p g1 g2 => ?_, q3.eq (fun k _ _ => h _ _ (Or.inl rfl))⟩
  · rw [h 18 i (Or.inr rfl), h 15 _ (Or.inl rfl)] at g3 ⊢
    obtain ⟨k, k1, k2⟩ := q1 i g1 g2 g3
    exact ⟨k, k1, by rw [h 18 k (Or.inr rfl)]; exact k2⟩
  · obtain ⟨k, k1, k2⟩ := q2 p g1 g2
    exact ⟨k, k1, by rw [h 18 k (Or.inr rfl)]; exact k2⟩
theorem fKn.eq0 {n : Int} (hB : w 19 0 ≤ 4) (h0 : w' 19 0 = w 19 0) (h : ∀ c k, (31 ≤ c ∧ c ≤ 37) ∨ c = 39 ∨ c = 40 → w' c k = w c k) (q : fKn w n) : fKn w' n := by
  obtain ⟨q1, q2⟩ := q
  refine ⟨fun b g1 g2 => ?_, fun p g1 g2 => (q2 p g1 g2).eq (fun c k g _ => h c k (by omega)) h0⟩
  rw [h0] at g2
  have z := q1 b g1 g2
  rw [h 35 b (by omega)]
  refine ⟨z.1, fun i k1 k2 => ?_⟩
  rw [h (b + 31) i (by omega), h 36 _ (by omega)]
  exact z.2 i k1 k2
theorem bF.eq (hT : e_Has kTy w) (h : ∀ c k, dBf c k → w' c k = w c k) (q : bF w) : bF w' := by
  have hB := e_Has.get hT (c := 19) (k := 0) (lo := 0) (hi := 4) (kt_o rfl) (by decide)
  have hm := e_Has.get hT (c := 19) (k := 1) (lo := 0) (hi := 32) (kt_o rfl) (by decide)
  have e0 : w' 19 0 = w 19 0 := h _ _ (by unfold dBf; omega)
  have e1 : w' 19 1 = w 19 1 := h _ _ (by unfold dBf; omega)
  refine ⟨fun p g1 g2 g3 => ?_, ?_⟩
  · rw [e1] at g2
    rw [h (p + 42) 0 (by unfold dBf; omega)] at g3 ⊢
    rw [e0]
    exact q.1 p g1 g2 g3
  · rw [e1]
    exact q.2.eq0 hB.2 e0 (fun c k g => h c k (by unfold dBf; omega))
theorem kBld.eq (hT : e_Has kTy w) (h : ∀ c k, dBa c k ∨ dBc c k ∨ dBp c k ∨ dBf c k ∨ (c = 262 ∧ k = 0) → w' c k = w c k) (q : kBld w) : kBld w' := by
  obtain ⟨q1, q2, q3, q4, q5⟩ := q
  exact ⟨q1.eq hT (fun c k g => h c k (Or.inl g)), q2.eq (fun c k g => h c k (Or.inr (Or.inl g))), q3.eq hT (fun c k g => h c k (Or.inr (Or.inr (Or.inl g)))), q4.eq hT (fun c k g => h c k (Or.inr (Or.inr (Or.inr (Or.inl g))))), (h 262 0 (Or.inr (Or.inr (Or.inr (Or.inr ⟨rfl, rfl⟩))))).trans q5⟩
theorem kBld.fr {S : Int → Int → Prop} (hT : e_Has kTy w) (f : e_fr S w w') (h : ∀ c k, S c k → ¬ (dBa c k ∨ dBc c k ∨ dBp c k ∨ dBf c k ∨ (c = 262 ∧ k = 0))) (q : kBld w) : kBld w' := q.eq hT (fun c k g => f c k (fun g2 => h c k g2 g))
/-- a program in order, or none, for every arm: as the open cell asks -/
theorem bC.co (q : bC w) : ∃ OP OD CL, kCo w OP OD CL := by
  obtain ⟨p0, d0, l0, h0⟩ := (q.2.1 0 (by omega) (by omega)).1
  obtain ⟨p1, d1, l1, h1⟩ := (q.2.1 1 (by omega) (by omega)).1
  obtain ⟨p2, d2, l2, h2⟩ := (q.2.1 2 (by omega) (by omega)).1
  obtain ⟨p3, d3, l3, h3⟩ := (q.2.1 3 (by omega) (by omega)).1
  refine ⟨fun a => if a = 0 then p0 else if a = 1 then p1 else if a = 2 then p2 else p3, fun a => if a = 0 then d0 else if a = 1 then d1 else if a = 2 then d2 else d3, fun a => if a = 0 then l0 else if a = 1 then l1 else if a = 2 then l2 else l3, fun a g1 g2 => ?_⟩
  obtain rfl | rfl | rfl | rfl : a = 0 ∨ a = 1 ∨ a = 2 ∨ a = 3 := by omega
  · exact h0
  · exact h1
  · exact h2
  · exact h3
theorem kBld.cf (q : kBld w) : ∃ OP OD CL, cfI w OP OD CL := by
  obtain ⟨OP, OD, CL, k⟩ := q.2.1.co
  exact ⟨OP, OD, CL, fun a g1 g2 => (q.1 a g1 g2).1, fun a j g1 g2 g3 g4 => (q.1 a g1 g2).2.2.2 j g3 g4, k, q.2.2.2.1.1, q.2.2.1.1, q.2.2.1.2.1⟩
theorem kBld.lk (hT : e_Has kTy w) (hAll : ∀ c k, 0 ≤ c → c ≤ 274 → kn1 (w c k)) (q : kBld w) : lkK w := by
  have hm := e_Has.get hT (c := 19) (k := 1) (lo := 0) (hi := 32) (kt_o rfl) (by decide)
  exact ⟨hT, hAll, fun a g1 g2 => q.2.1.cd g1 g2, fun a g1 g2 g => by have := (q.1 a g1 g2).2.1; omega, fun a g1 g2 => (q.1 a g1 g2).2.2.1, q.2.2.2.1.2.fK rfl hm.2⟩
theorem codK.zero {cd : Int} (hc : isCd cd) (h0 : w cd 0 = 0) (h1 : w cd 1 = 0) : codK w cd := by
  obtain ⟨op, ho⟩ : ∃ f : Int → Int, ∀ p, f p = 43 := ⟨fun _ => 43, fun _ => rfl⟩
  obtain ⟨od, hd⟩ : ∃ f : Int → Int, ∀ p, f p = 0 := ⟨fun _ => 0, fun _ => rfl⟩
  obtain ⟨cl, hl⟩ : ∃ f : Int → Int, ∀ p, f p = 0 := ⟨fun _ => 0, fun _ => rfl⟩
  refine ⟨op, od, cl, ⟨hc, fun p => ⟨fun a b => by omega, fun _ => ⟨ho p, hd p⟩⟩⟩, ⟨by have := ho 0; omega, fun q _ => by have := hl q; omega, fun p => ?_⟩, fun n a b => by omega, fun p h => by have := ho p; omega⟩
  have h1 := ho p
  have h2 := hd p
  have h3 := hl p
  have h4 := ho (od p)
  have h5 := ho (p + 1)
  have h6 := hl (p + 1)
  have h7 := hl (od p)
  exact ⟨fun h => by omega, fun h => by omega, fun h => by omega, fun h => by omega, fun h => by omega, fun h => by omega, fun h => by omega, fun h => by omega, fun h => by omega, fun h => by omega⟩
theorem kBld.pace {a b c e : Int} (hT : e_Has kTy w) (q : kBld w) (f : e_fr (kBj a b) w w') (g : (0 ≤ a ∧ a < w 0 11) ∧ (0 ≤ b ∧ b < w (17 * a + 86) 8) ∧ (1 ≤ c ∧ c ≤ 2000) ∧ (1 ≤ e ∧ e ≤ 2000)) (e5 : w' (17 * a + b + 97) 5 = c) (e6 : w' (17 * a + b + 97) 6 = e) : kBld w' := by
  have h0 := e_Has.get hT (c := 0) (k := 11) (lo := 0) (hi := 4) (kt_o rfl) (by decide)
  obtain ⟨q1, q2, q3, q4, q5⟩ := q
  have hn := kn_joints hT (a := a) (by omega)
  refine ⟨fun x g1 g2 => ?_, q2.eq (fun c k g => f c k (by unfold dBc at g; unfold kBj; omega)), q3.eq hT (fun c k g => f c k (by unfold dBp at g; unfold kBj; omega)), q4.eq hT (fun c k g => f c k (by unfold dBf at g; unfold kBj; omega)), (f _ _ (by unfold kBj; omega)).trans q5⟩
  by_cases ex : x = a
  · subst ex
    obtain ⟨p1, p2, p3, p4⟩ := q1 x g1 g2
    have e8 : w' (17 * x + 86) 8 = w (17 * x + 86) 8 := f _ _ (by unfold kBj; omega)
    refine ⟨?_, (f _ _ (by unfold kBj; omega)).trans p2, ?_, fun j k1 k2 => ?_⟩
    · rw [f _ _ (by unfold kBj; omega), f (17 * x + 89) _ (by unfold kBj; omega)]; exact p1
    · unfold aK at p3 ⊢
      rw [e8]
      exact ⟨fun i k1 k2 => by rw [f _ _ (by unfold kBj; omega)]; exact p3.1 i k1 k2, fun i k1 k2 => by rw [f _ _ (by unfold kBj; omega)]; exact p3.2 i k1 k2⟩
    · rw [e8] at k2
      have z := p4 j k1 k2
      unfold jC at z ⊢
      rw [f _ 1 (by unfold kBj; omega), f _ 2 (by unfold kBj; omega)]
      by_cases ej : j = b
      · rw [ej] at z ⊢
        rw [e5, e6]
        exact ⟨z.1, g.2.2⟩
      · rw [f _ 5 (by unfold kBj; omega), f _ 6 (by unfold kBj; omega)]
        exact z
  · exact (q1 x g1 g2).eq ⟨g1, g2⟩ hT (fun c k g h1 h2 => f c k (by unfold kBj; omega))
theorem kBld.joint {a n : Int} (hT : e_Has kTy w) (q : kBld w) (f : e_fr (kAj a) w w') (hn : n = w (17 * a + 86) 8) (g : (0 ≤ a ∧ a < w 0 11) ∧ n ≤ 5) (e8 : w' (17 * a + 86) 8 = n + 1) (hj : jC w' (17 * a + n + 97)) (ho : ∀ j k, 0 ≤ j → j ≤ 5 → j ≠ n → w' (17 * a + j + 97) k = w (17 * a + j + 97) k) (hk : aK w' a) : kBld w' := by
  have h0 := e_Has.get hT (c := 0) (k := 11) (lo := 0) (hi := 4) (kt_o rfl) (by decide)
  obtain ⟨q1, q2, q3, q4, q5⟩ := q
  have hjn := kn_joints hT (a := a) (by omega)
  refine ⟨fun x g1 g2 => ?_, q2.eq (fun c k g => f c k (by unfold dBc at g; unfold kAj; omega)), q3.eq hT (fun c k g => f c k (by unfold dBp at g; unfold kAj; omega)), q4.eq hT (fun c k g => f c k (by unfold dBf at g; unfold kAj; omega)), (f _ _ (by unfold kAj; omega)).trans q5⟩
  by_cases ex : x = a
  · subst ex
    obtain ⟨p1, p2, p3, p4⟩ := q1 x g1 g2
    refine ⟨?_, (f _ _ (by unfold kAj; omega)).trans p2, hk, fun j k1 k2 => ?_⟩
    · rw [f _ _ (by unfold kAj; omega), f (17 * x + 89) _ (by unfold kAj; omega)]; exact p1
    · by_cases ej : j = n
      · rw [ej]; exact hj
      · have z := p4 j k1 (by omega)
        unfold jC at z ⊢
        rw [ho j 1 (by omega) (by omega) ej, ho j 2 (by omega) (by omega) ej, ho j 5 (by omega) (by omega) ej, ho j 6 (by omega) (by omega) ej]
        exact z
  · exact (q1 x g1 g2).eq ⟨g1, g2⟩ hT (fun c k g h1 h2 => f c k (by unfold kAj; omega))
theorem kBld.arm {n cd : Int} (hT : e_Has kTy w) (q : kBld w) (hc : w (17 * n + 86) 7 = cd) (f : e_fr (kAa n cd) w w') (g : 0 ≤ n ∧ n ≤ 3) (e8 : w' (17 * n + 86) 8 = 0) (hx : kn1 (w' (17 * n + 88) 0) ∧ kn1 (w' (17 * n + 89) 0)) (hr : aR0 w' n) (h0 : w' cd 0 = 0) (h1 : w' cd 1 = 0) : kBld w' := by
  obtain ⟨q1, q2, q3, q4, q5⟩ := q
  have hcd := q2.cd g.1 g.2
  rw [hc] at hcd
  have hcd2 := hcd
  unfold isCd at hcd2
  have fu : ∀ c k, ¬ (kMk n cd c k ∨ (c = 0 ∧ k = 11)) → w' c k = w c k := f
  refine ⟨fun x g1 g2 => ?_, ?_, q3.eq hT (fun c k g => fu c k (by unfold dBp at g; unfold kMk; omega)), q4.eq hT (fun c k g => fu c k (by unfold dBf at g; unfold kMk; omega)), (fu _ _ (by unfold kMk; omega)).trans q5⟩
  · by_cases ex : x = n
    · subst ex
      have z1 := hr.1
      have z4 := hr.2.2.2.1
      exact ⟨hx, by omega, z4, fun j k1 k2 => by omega⟩
    · exact (q1 x g1 g2).eq ⟨g1, g2⟩ hT (fun c k g h1 h2 => fu c k (by unfold dBa at g; unfold kMk; omega))
  · have e7 : ∀ a, 0 ≤ a → a ≤ 3 → w' (17 * a + 86) 7 = w (17 * a + 86) 7 := fun a g1 g2 => fu _ _ (by unfold kMk; omega)
    have e1 : w' 1 3 = w 1 3 := fu _ _ (by unfold kMk; omega)
    have hcs := fun a g1 g2 => q2.cd (a := a) g1 g2
    obtain ⟨c1, c2, c3⟩ := q2
    refine ⟨by rw [e1]; exact c1, fun a g1 g2 => ?_, fun a b g1 g2 g3 g4 g5 => by rw [e7 a g1 g2, e7 b g3 g4]; exact c3 a b g1 g2 g3 g4 g5⟩
    rw [e7 a g1 g2, e1]
    refine ⟨?_, (c2 a g1 g2).2⟩
    by_cases ea : a = n
    · rw [ea, hc]; exact codK.zero hcd h0 h1
    · have k := hcs a g1 g2
      have d := c3 a n g1 g2 g.1 g.2 ea
      rw [hc] at d
      unfold isCd at k
      exact (c2 a g1 g2).1.eq (fun c k' g => fu c k' (by unfold kMk; omega))
theorem no_dt_0 {p : Int} (hp : 0 ≤ p ∧ p ≤ 9999) : ¬ kAb (p + 42) 0 := by unfold kAb; omega
theorem no_dt_1 {b : Int} {i : Int} (hb : 0 ≤ b ∧ b ≤ 3) (hi : 0 ≤ i ∧ i ≤ 5) : ¬ kAb (b + 31) i := by unfold kAb; omega
theorem no_dt_2 {k : Int} : ¬ kAb 36 k := by unfold kAb; omega
theorem no_dt_3 {k : Int} : ¬ kAb 37 k := by unfold kAb; omega
theorem no_dt_4 {k : Int} : ¬ kAb 39 k := by unfold kAb; omega
theorem no_dt_5 {k : Int} : ¬ kAb 40 k := by unfold kAb; omega
theorem kBld.belt (hT : e_Has kTy w) (q : kBld w) (f : e_fr kAb w w') (e0 : w' 19 0 = w 19 0 + 1) (e35 : w' 35 (w 19 0) = 0) (hb : w 19 0 ≤ 3) (eo : ∀ k, k ≠ w 19 0 → w' 35 k = w 35 k) : kBld w' := by
  obtain ⟨q1, q2, q3, ⟨q4, q6⟩, q5⟩ := q
  have hB := e_Has.get hT (c := 19) (k := 0) (lo := 0) (hi := 4) (kt_o rfl) (by decide)
  have hm := e_Has.get hT (c := 19) (k := 1) (lo := 0) (hi := 32) (kt_o rfl) (by decide)
  have e1 : w' 19 1 = w 19 1 := f _ _ (by unfold kAb; omega)
  refine ⟨q1.eq hT (fun c k g => f c k (by unfold dBa at g; unfold kAb; omega)), q2.eq (fun c k g => f c k (by unfold dBc at g; unfold kAb; omega)), q3.eq hT (fun c k g => f c k (by unfold dBp at g; unfold kAb; omega)), ⟨fun p g1 g2 g3 => ?_, ?_⟩, (f _ _ (by unfold kAb; omega)).trans q5⟩
  · rw [e1] at g2
    rw [f (p + 42) 0 (by first | exact no_dt_0 (by omega) | (unfold kAb; omega))] at g3 ⊢
    have := q4 p g1 g2 g3
    omega
  · rw [e1]
    refine ⟨fun b g1 g2 => ?_, fun p g1 g2 => ?_⟩
    · by_cases eb : b = w 19 0
      · rw [eb, e35]; exact ⟨by omega, fun i k1 k2 => by omega⟩
      · have z := q6.1 b g1 (by omega)
        rw [eo b eb]
        refine ⟨z.1, fun i k1 k2 => ?_⟩
        rw [f (b + 31) i (by first | exact no_dt_1 (by omega) (by omega) | (unfold kAb; omega)), f 36 _ no_dt_2]
        exact z.2 i k1 k2
    · have z := q6.2 p g1 g2
      unfold fP at z ⊢
      rw [f 36 p no_dt_2, f 37 p no_dt_3, f 39 p no_dt_4, f 40 p no_dt_5]
      exact ⟨z.1, fun h => ⟨by have := (z.2.1 h).1; omega, (z.2.1 h).2⟩, z.2.2⟩
def kAp (c k : Int) : Prop := (c = 19 ∧ k = 1) ∨ (31 ≤ c ∧ c ≤ 40) ∨ (42 ≤ c ∧ c ≤ 73)
theorem kBld.part {n : Int} (hT : e_Has kTy w) (q : kBld w) (f : e_fr kAp w w') (hn : w 19 1 = n) (e1 : w' 19 1 = n + 1) (hf : fKn w' (n + 1)) (h0 : w' (n + 42) 0 < 4 → w' (n + 42) 0 < w 19 0) (ho : ∀ p, 0 ≤ p → p < n → w' (p + 42) 0 = w (p + 42) 0) : kBld w' := by
  obtain ⟨q1, q2, q3, ⟨q4, q6⟩, q5⟩ := q
  have e0 : w' 19 0 = w 19 0 := f _ _ (by unfold kAp; omega)
  refine ⟨q1.eq hT (fun c k g => f c k (by unfold dBa at g; unfold kAp; omega)), q2.eq (fun c k g => f c k (by unfold dBc at g; unfold kAp; omega)), q3.eq hT (fun c k g => f c k (by unfold dBp at g; unfold kAp; omega)), ⟨fun p g1 g2 g3 => ?_, by rw [e1]; exact hf⟩, (f _ _ (by unfold kAp; omega)).trans q5⟩
  by_cases ep : p = n
  · rw [ep] at g3 ⊢; rw [e0]; exact h0 g3
  · rw [ho p g1 (by omega)] at g3 ⊢
    rw [e0]
    exact q4 p g1 (by omega) g3
theorem kBld.wire (hT : e_Has kTy w) (q : kBld w) (f : e_fr kCn w w') (h : bP w') : kBld w' := by
  obtain ⟨q1, q2, q3, q4, q5⟩ := q
  exact ⟨q1.eq hT (fun c k g => f c k (by unfold dBa at g; unfold kCn; omega)), q2.eq (fun c k g => f c k (by unfold dBc at g; unfold kCn; omega)), h, q4.eq hT (fun c k g => f c k (by unfold dBf at g; unfold kCn; omega)), (f _ _ (by unfold kCn; omega)).trans q5⟩
theorem kBld.prog {cd n : Int} (hT : e_Has kTy w) (q : kBld w) (hc : w 1 3 = cd) (f : e_fr (kPg cd n) w w') (g : 0 ≤ n ∧ n ≤ 3) (h : (w' 1 3 = cd ∧ w' (17 * n + 86) 7 = w (17 * n + 86) 7) ∨ (w' 1 3 = w (17 * n + 86) 7 ∧ w' (17 * n + 86) 7 = cd ∧ codK w' cd)) : kBld w' := by
  obtain ⟨q1, q2, q3, q4, q5⟩ := q
  have fu : ∀ c k, ¬ (kRr cd c k ∨ (c = 1 ∧ (k = 0 ∨ k = 3)) ∨ (c = 17 * n + 86 ∧ k = 7)) → w' c k = w c k := f
  have hcs := fun a g1 g2 => q2.cd (a := a) g1 g2
  obtain ⟨c1, c2, c3⟩ := q2
  rw [hc] at c1
  have hcd2 := c1
  unfold isCd at hcd2
  have e7 : ∀ a, 0 ≤ a → a ≤ 3 → a ≠ n → w' (17 * a + 86) 7 = w (17 * a + 86) 7 := fun a g1 g2 g3 => fu _ _ (by unfold kRr; omega)
  have hco : ∀ a, 0 ≤ a → a ≤ 3 → codK w' (w (17 * a + 86) 7) := fun a g1 g2 => by
    have k := hcs a g1 g2
    have d := (c2 a g1 g2).2
    rw [hc] at d
    unfold isCd at k
    exact (c2 a g1 g2).1.eq (fun c k' g => fu c k' (by unfold kRr; omega))
  have hno := hcs n g.1 g.2
  refine ⟨q1.eq hT (fun c k g => fu c k (by unfold dBa at g; unfold kRr; omega)), ?_, q3.eq hT (fun c k g => fu c k (by unfold dBp at g; unfold kRr; omega)), q4.eq hT (fun c k g => fu c k (by unfold dBf at g; unfold kRr; omega)), (fu _ _ (by unfold kRr; omega)).trans q5⟩
  rcases h with ⟨h1, h2⟩ | ⟨h1, h2, h3⟩
  · have e8 : ∀ a, 0 ≤ a → a ≤ 3 → w' (17 * a + 86) 7 = w (17 * a + 86) 7 := fun a g1 g2 => by
      by_cases e : a = n
      · rw [e]; exact h2
      · exact e7 a g1 g2 e
    refine ⟨by rw [h1]; exact c1, fun a g1 g2 => ?_, fun a b g1 g2 g3 g4 g5 => by rw [e8 a g1 g2, e8 b g3 g4]; exact c3 a b g1 g2 g3 g4 g5⟩
    rw [e8 a g1 g2, h1]
    exact ⟨hco a g1 g2, by rw [← hc]; exact (c2 a g1 g2).2⟩
  · refine ⟨by rw [h1]; exact hno, fun a g1 g2 => ?_, fun a b g1 g2 g3 g4 g5 => ?_⟩
    · by_cases e : a = n
      · rw [e, h2, h1]; exact ⟨h3, fun z => (c2 n g.1 g.2).2 (by rw [hc]; exact z.symm)⟩
      · rw [e7 a g1 g2 e, h1]; exact ⟨hco a g1 g2, c3 a n g1 g2 g.1 g.2 e⟩
    · by_cases ea : a = n
      · rw [ea, h2, e7 b g3 g4 (by omega)]; exact fun z => (c2 b g3 g4).2 (by rw [hc]; exact z.symm)
      · by_cases eb : b = n
        · rw [eb, h2, e7 a g1 g2 ea]; exact fun z => (c2 a g1 g2).2 (by rw [hc]; exact z)
        · rw [e7 a g1 g2 ea, e7 b g3 g4 eb]; exact c3 a b g1 g2 g3 g4 g5
end DT
end
end
-- part du
section
noncomputable section
/-! the class: parts, wire, build -/
def kCL (c k : Int) : Prop := kNw c k ∨ (c = 0 ∧ 11 ≤ k ∧ k ≤ 13) ∨ (86 ≤ c ∧ c ≤ 153 ∧ ¬ ((c - 86) % 17 = 0 ∧ k = 7)) ∨ (c = 2 ∧ 0 ≤ k ∧ k ≤ 2) ∨ c = 15 ∨ c = 18 ∨ (c = 19 ∧ (k = 0 ∨ k = 1)) ∨ (c = 74 ∧ k = 2) ∨ c = 77 ∨ (c = 250 ∧ (k = 0 ∨ k = 1)) ∨ (c = 262 ∧ k = 0) ∨ c = 274
theorem nw_cd {c k : Int} (h : isCd c) : ¬ kNw c k := by
  rcases h with rfl | rfl | rfl | rfl | rfl
  all_goals (unfold kNw; omega)
theorem nw_a {a k : Int} (h : 0 ≤ a ∧ a ≤ 3) (hk : k ≤ 10) : ¬ kNw (17 * a + 86) k := by
  obtain rfl | rfl | rfl | rfl : a = 0 ∨ a = 1 ∨ a = 2 ∨ a = 3 := by omega
  all_goals (unfold kNw; omega)
theorem nw_x {a : Int} (h : 0 ≤ a ∧ a ≤ 3) : ¬ kNw (17 * a + 88) 0 ∧ ¬ kNw (17 * a + 89) 0 := by
  obtain rfl | rfl | rfl | rfl : a = 0 ∨ a = 1 ∨ a = 2 ∨ a = 3 := by omega
  all_goals (unfold kNw; omega)
theorem cl_7 {a : Int} (h : 0 ≤ a ∧ a ≤ 3) : ¬ kCL (17 * a + 86) 7 := fun q => by
  have z := nw_a h (k := 7) (by omega)
  rcases q with q | q | q | q | q | q | q | q | q | q | q | q
  · exact z q
  all_goals omega
theorem cl_13 : ¬ kCL 1 3 := fun q => by
  have z : ¬ kNw 1 3 := by unfold kNw; omega
  rcases q with q | q | q | q | q | q | q | q | q | q | q | q
  · exact z q
  all_goals omega
theorem cl_mk {a cd c k : Int} (h : 0 ≤ a ∧ a ≤ 3) (hc : isCd cd) (q : kMk a cd c k) : kCL c k := by
  unfold isCd at hc
  rcases q with q | q | q | q
  · exact Or.inr (Or.inr (Or.inl (⟨by omega, by omega, by omega⟩)))
  · exact Or.inr (Or.inr (Or.inl (⟨by omega, by omega, by omega⟩)))
  · exact Or.inr (Or.inr (Or.inl (⟨by omega, by omega, by omega⟩)))
  · rcases hc with e | e | e | e | e
    · exact Or.inr (Or.inr (Or.inr (Or.inl (⟨by omega, by omega, by omega⟩))))
    all_goals exact Or.inr (Or.inr (Or.inl (⟨by omega, by omega, by omega⟩)))
/-- an arm made anew, with nothing in its program -/
def mK0 (w v : eW) (a : Int) : Prop := v (17 * a + 86) 8 = 0 ∧ (v (17 * a + 88) 0 = 0 ∧ v (17 * a + 89) 0 = 0) ∧ v (w (17 * a + 86) 7) 0 = 0 ∧ v (w (17 * a + 86) 7) 1 = 0
theorem mK0.eq {w v v' : eW} {a : Int} (h : mK0 w v a) (e8 : v' (17 * a + 86) 8 = v (17 * a + 86) 8) (ex : v' (17 * a + 88) 0 = v (17 * a + 88) 0) (ey : v' (17 * a + 89) 0 = v (17 * a + 89) 0) (e0 : v' (w (17 * a + 86) 7) 0 = v (w (17 * a + 86) 7) 0) (e1 : v' (w (17 * a + 86) 7) 1 = v (w (17 * a + 86) 7) 1) : mK0 w v' a := by
  unfold mK0 at h ⊢
  rw [e8, ex, ey, e0, e1]
  exact h
theorem mK0.fr {S : Int → Int → Prop} {w v v' : eW} {a : Int} (ga : 0 ≤ a ∧ a ≤ 3) (hC : isCd (w (17 * a + 86) 7)) (f : e_fr S v v') (hS : ∀ c k, S c k → ¬ (c = 2 ∧ k ≤ 1) ∧ (86 ≤ c → c ≤ 153 → ((c - 86) % 17 = 0 ∧ k ≠ 8) ∨ (((c - 86) % 17 = 2 ∨ (c - 86) % 17 = 3) ∧ k ≠ 0) ∨ ((c - 86) % 17 ≠ 0 ∧ (c - 86) % 17 ≠ 2 ∧ (c - 86) % 17 ≠ 3 ∧ (c - 86) % 17 ≠ 8))) (h : mK0 w v a) : mK0 w v' a := by
  unfold isCd at hC
  exact h.eq (f _ _ (fun q => by have := hS _ _ q; omega)) (f _ _ (fun q => by have := hS _ _ q; omega)) (f _ _ (fun q => by have := hS _ _ q; omega)) (f _ _ (fun q => by have := hS _ _ q; omega)) (f _ _ (fun q => by have := hS _ _ q; omega))
theorem su_du_17 {c k : Int} (q : kFl c k) : kAp c k := by
  unfold kFl at q
  rcases q with ⟨q, q⟩ | q | q
  · exact Or.inr (Or.inl ⟨(by omega), (by omega)⟩)
  · exact Or.inr (Or.inl ⟨(by omega), (by omega)⟩)
  · exact Or.inr (Or.inl ⟨(by omega), (by omega)⟩)
set_option maxHeartbeats 4000000 in
theorem c_76 {d : Nat} (hd : 24 ≤ d) {w : eW} (hT : e_Has kTy w) {n at_ : Int} (hn : w 19 1 = n) (ga : 0 ≤ at_ ∧ at_ ≤ 8) (hA : at_ < 4 → at_ < w 19 0) (hf : fKn w n) {s : Int} (g_s : (-2147483648) ≤ s ∧ s ≤ 2147483647) {x : Int} (g_x : (-2147483648) ≤ x ∧ x ≤ 2147483647) {y : Int} (g_y : (-2147483648) ≤ y ∧ y ≤ 2147483647) {r_ : Int} (g_r_ : (-2147483648) ≤ r_ ∧ r_ ≤ 2147483647) : e_Ok 20 elay kcode eI d 76 (0, [(0, (1, 19)), (1, (0, at_)), (2, (0, s)), (3, (0, x)), (4, (0, y)), (5, (0, r_))], [], w) (fun r w' => ∃ z : Int, r = [(0, z)] ∧ e_Has kTy w' ∧ ((32 ≤ n ∧ w' = w) ∨ (n < 32 ∧ e_fr kAp w w' ∧ w' 19 1 = n + 1 ∧ fKn w' (n + 1) ∧ w' (n + 42) 0 = at_ ∧ ∀ p, 0 ≤ p → p < n → w' (p + 42) 0 = w (p + 42) 0))) := by
  obtain ⟨d, rfl⟩ : ∃ e, d = e + 1 := ⟨d - 1, by omega⟩
  have hb0 := e_Has.get hT (c := 19) (k := 0) (lo := 0) (hi := 4) (kt_o rfl) (by decide)
  have hp0 := e_Has.get hT (c := 19) (k := 1) (lo := 0) (hi := 32) (kt_o rfl) (by decide)
  refine e_Ok.ps1 (x := (1, 19)) (q := 1) 1 rfl ?_
  refine e_Ok.getf (z := n) rfl (el_o rfl) rfl rfl hn (by omega) ?_
  refine e_Ok.ps1 (x := (0, 32)) (q := 6) 1 rfl ?_
  refine e_Ok.if2 rfl (fun h1 => ?_) (fun h1 => ?_)
  · replace h1 : (n : Int) < 32 := h1
    refine e_Ok.ps1 (x := (1, 19)) (q := 13) 1 rfl ?_
    refine e_Ok.getf (z := n) rfl (el_o rfl) rfl rfl hn (by omega) ?_
    refine e_Ok.run (t' := (19, [(6, (0, n)), (0, (1, 19)), (1, (0, at_)), (2, (0, s)), (3, (0, x)), (4, (0, y)), (5, (0, r_))], [(1, 19)], w)) 2 rfl ?_
    refine e_Ok.getr (z := 41) rfl (el_o rfl) rfl rfl (e_Has.eq hT (kt_o rfl)) ⟨by decide, by decide⟩ ?_
    refine e_Ok.ps1 (x := (0, n)) (q := 24) 1 rfl ?_
    refine e_Ok.aald (z := n + 42) rfl (el_o rfl) rfl (by omega) (Eq.trans (e_Has.eq hT (k41 (by omega))) (by omega)) (by omega) ?_
    refine e_Ok.ps2 (x := (0, at_)) (y := (0, 0)) (q := 27) 2 rfl ?_
    refine e_Ok.ast rfl (lG (p := n) (by omega) (by omega)) rfl rfl (by omega) ?_
    generalize hw2 : e_up w (n + 42) 0 at_ = w2
    have hT4 : e_Has kTy w2 := e_Has.upr hT hw2 (kG_0 (p := n) (by omega) (by omega)) (by omega)
    refine e_Ok.ps1 (x := (1, 19)) (q := 29) 1 rfl ?_
    refine e_Ok.getr (z := 41) rfl (el_o rfl) rfl rfl (e_uq hw2 (Or.inr (by decide)) (e_Has.eq hT (kt_o rfl))) ⟨by decide, by decide⟩ ?_
    refine e_Ok.ps1 (x := (0, n)) (q := 34) 1 rfl ?_
    refine e_Ok.aald (z := n + 42) rfl (el_o rfl) rfl (by omega) (e_uq hw2 (Or.inl (by omega)) (Eq.trans (e_Has.eq hT (k41 (by omega))) (by omega))) (by omega) ?_
    refine e_Ok.ps2 (x := (0, s)) (y := (0, 1)) (q := 37) 2 rfl ?_
    refine e_Ok.ast rfl (lG (p := n) (by omega) (by omega)) rfl rfl (by omega) ?_
    generalize hw5 : e_up w2 (n + 42) 1 s = w5
    have hT7 : e_Has kTy w5 := e_Has.upr hT4 hw5 (kG_1 (p := n) (by omega) (by omega)) (by omega)
    refine e_Ok.ps1 (x := (1, 19)) (q := 39) 1 rfl ?_
    refine e_Ok.getr (z := 41) rfl (el_o rfl) rfl rfl (e_uq hw5 (Or.inr (by decide)) (e_uq hw2 (Or.inr (by decide)) (e_Has.eq hT (kt_o rfl)))) ⟨by decide, by decide⟩ ?_
    refine e_Ok.ps1 (x := (0, n)) (q := 44) 1 rfl ?_
    refine e_Ok.aald (z := n + 42) rfl (el_o rfl) rfl (by omega) (e_uq hw5 (Or.inl (by omega)) (e_uq hw2 (Or.inl (by omega)) (Eq.trans (e_Has.eq hT (k41 (by omega))) (by omega)))) (by omega) ?_
    refine e_Ok.ps2 (x := (0, x)) (y := (0, 2)) (q := 47) 2 rfl ?_
    refine e_Ok.ast rfl (lG (p := n) (by omega) (by omega)) rfl rfl (by omega) ?_
    generalize hw8 : e_up w5 (n + 42) 2 x = w8
    have hT10 : e_Has kTy w8 := e_Has.upr hT7 hw8 (kG_2 (p := n) (by omega) (by omega)) (by omega)
    refine e_Ok.ps1 (x := (1, 19)) (q := 49) 1 rfl ?_
    refine e_Ok.getr (z := 41) rfl (el_o rfl) rfl rfl (e_uq hw8 (Or.inr (by decide)) (e_uq hw5 (Or.inr (by decide)) (e_uq hw2 (Or.inr (by decide)) (e_Has.eq hT (kt_o rfl))))) ⟨by decide, by decide⟩ ?_
    refine e_Ok.ps1 (x := (0, n)) (q := 54) 1 rfl ?_
    refine e_Ok.aald (z := n + 42) rfl (el_o rfl) rfl (by omega) (e_uq hw8 (Or.inl (by omega)) (e_uq hw5 (Or.inl (by omega)) (e_uq hw2 (Or.inl (by omega)) (Eq.trans (e_Has.eq hT (k41 (by omega))) (by omega))))) (by omega) ?_
    refine e_Ok.ps2 (x := (0, y)) (y := (0, 3)) (q := 58) 2 rfl ?_
    refine e_Ok.ast rfl (lG (p := n) (by omega) (by omega)) rfl rfl (by omega) ?_
    generalize hw11 : e_up w8 (n + 42) 3 y = w11
    have hT13 : e_Has kTy w11 := e_Has.upr hT10 hw11 (kG_3 (p := n) (by omega) (by omega)) (by omega)
    refine e_Ok.ps1 (x := (1, 19)) (q := 60) 1 rfl ?_
    refine e_Ok.getr (z := 38) rfl (el_o rfl) rfl rfl (e_uq hw11 (Or.inr (by decide)) (e_uq hw8 (Or.inr (by decide)) (e_uq hw5 (Or.inr (by decide)) (e_uq hw2 (Or.inr (by decide)) (e_Has.eq hT (kt_o rfl)))))) ⟨by decide, by decide⟩ ?_
    refine e_Ok.ps2 (x := (0, r_)) (y := (0, n)) (q := 67) 2 rfl ?_
    refine e_Ok.ast rfl (el_o rfl) rfl rfl (by omega) ?_
    generalize hw14 : e_up w11 38 n r_ = w14
    have hT16 : e_Has kTy w14 := e_Has.upr hT13 hw14 (kt_o rfl) (by omega)
    refine e_Ok.ps2 (x := (1, 19)) (y := (1, 19)) (q := 70) 2 rfl ?_
    refine e_Ok.getf (z := n) rfl (el_o rfl) rfl rfl (e_uq hw14 (Or.inl (by decide)) (e_uq hw11 (Or.inr (by decide)) (e_uq hw8 (Or.inr (by decide)) (e_uq hw5 (Or.inl (by omega)) (e_uq hw2 (Or.inr (by decide)) hn))))) (by omega) ?_
    refine e_Ok.ps1 (x := (0, 1)) (q := 74) 1 rfl ?_
    refine e_Ok.add (z := n + 1) rfl rfl (by omega) ?_
    refine e_Ok.putf rfl (el_o rfl) rfl rfl ?_
    generalize hw17 : e_up w14 19 1 (n + 1) = w17
    have hT19 : e_Has kTy w17 := e_Has.upr hT16 hw17 (kt_o rfl) (by omega)
    refine e_Ok.ps2 (x := (0, n)) (y := (1, 19)) (q := 81) 2 rfl ?_
    have u0 : w17 19 0 = w 19 0 := by rw [← hw17, e_up_ne _ _ (by omega), ← hw14, e_up_ne _ _ (by omega), ← hw11, e_up_ne _ _ (by omega), ← hw8, e_up_ne _ _ (by omega), ← hw5, e_up_ne _ _ (by omega), ← hw2, e_up_ne _ _ (by omega)]
    have un : w17 (n + 42) 0 = at_ := (e_uq hw17 (Or.inr (by decide)) (e_uq hw14 (Or.inl (by omega)) (e_uq hw11 (Or.inr (by decide)) (e_uq hw8 (Or.inr (by decide)) (e_uq hw5 (Or.inr (by decide)) (e_ue hw2))))))
    have u1 : w17 19 1 = n + 1 := (e_ue hw17)
    have uo : ∀ p k, 0 ≤ p → p < n → w17 (p + 42) k = w (p + 42) k := fun p k g1 g2 => by rw [← hw17, e_up_ne _ _ (by omega), ← hw14, e_up_ne _ _ (by omega), ← hw11, e_up_ne _ _ (by omega), ← hw8, e_up_ne _ _ (by omega), ← hw5, e_up_ne _ _ (by omega), ← hw2, e_up_ne _ _ (by omega)]
    have uf : fKn w17 n := fKn.eq0 hb0.2 u0 (fun c k g => by rw [← hw17, e_up_ne _ _ (by omega), ← hw14, e_up_ne _ _ (by omega), ← hw11, e_up_ne _ _ (by omega), ← hw8, e_up_ne _ _ (by omega), ← hw5, e_up_ne _ _ (by omega), ← hw2, e_up_ne _ _ (by omega)]) hf
    refine e_Ok.callV rfl (e_dq hd rfl) rfl rfl rfl rfl (c_78_k (e_dq hd rfl) (p := n) hT19 (by omega) uf (by rw [un, u0]; exact hA)) (fun r20 w21 h22 => ?_)
    obtain ⟨rfl, pf, pT, pk⟩ := h22
    refine e_Ok.nrm (q := 84) (st' := []) rfl rfl ?_
    refine e_Ok.ps1 (x := (0, n)) (q := 86) 1 rfl ?_
    refine e_Ok.rets rfl rfl ?_
    exact ⟨_, rfl, pT, Or.inr ⟨by omega, (show e_fr kAp w w21 from e_fr.trans (show e_fr kAp w w17 from e_fr.up (show e_fr kAp w w14 from e_fr.up (show e_fr kAp w w11 from e_fr.up (show e_fr kAp w w8 from e_fr.up (show e_fr kAp w w5 from e_fr.up (show e_fr kAp w w2 from e_fr.up (e_fr.refl w) hw2 (by unfold kAp; omega)) hw5 (by unfold kAp; omega)) hw8 (by unfold kAp; omega)) hw11 (by unfold kAp; omega)) hw14 (by first | exact Or.inr (Or.inl ⟨(by decide), (by decide)⟩) | (unfold kAp; omega))) hw17 (by first | exact Or.inl ⟨rfl, rfl⟩ | (unfold kAp; omega))) (e_fr.mono pf (fun c k q => su_du_17 q))), (by rw [pf _ _ (by unfold kFl; omega)]; exact u1), pk, (by rw [pf _ _ (by unfold kFl; omega)]; exact un), (fun p g1 g2 => by rw [pf _ _ (by unfold kFl; omega)]; exact uo p 0 g1 g2)⟩⟩
  · replace h1 : (n : Int) ≥ 32 := Int.not_lt.mp (show ¬ ((n : Int) < 32) from h1)
    refine e_Ok.ps1 (x := (0, (-3))) (q := 11) 1 rfl ?_
    refine e_Ok.rets rfl rfl ?_
    exact ⟨_, rfl, hT, Or.inl ⟨by omega, rfl⟩⟩
set_option maxHeartbeats 4000000 in
theorem c_203 {d : Nat} (hd : 27 ≤ d) {w : eW} (hT : e_Has kTy w) (hO : 0 ≤ w 0 13 ∧ w 0 13 ≤ 1) (hf : w 0 13 = 0 → fKn w (w 19 1)) {a : Int} (g_a : (-2147483648) ≤ a ∧ a ≤ 2147483647) {b : Int} (g_b : (-2147483648) ≤ b ∧ b ≤ 2147483647) {c : Int} (g_c : (-2147483648) ≤ c ∧ c ≤ 2147483647) : e_Ok 20 elay kcode eI d 203 (0, [(0, (1, 0)), (1, (0, a)), (2, (0, b)), (3, (0, c))], [], w) (fun r w' => ∃ z : Int, r = [(0, z)] ∧ e_Has kTy w' ∧ (w' = w ∨ (w 0 13 = 0 ∧ e_fr kAp w w' ∧ w' 19 1 = w 19 1 + 1 ∧ fKn w' (w 19 1 + 1) ∧ (w' (w 19 1 + 42) 0 < 4 → w' (w 19 1 + 42) 0 < w 19 0) ∧ ∀ p, 0 ≤ p → p < w 19 1 → w' (p + 42) 0 = w (p + 42) 0))) := by
  obtain ⟨d, rfl⟩ : ∃ e, d = e + 1 := ⟨d - 1, by omega⟩
  have hw0 := e_Has.get hT (c := 0) (k := 11) (lo := 0) (hi := 4) (kt_o rfl) (by decide)
  have hb0 := e_Has.get hT (c := 19) (k := 0) (lo := 0) (hi := 4) (kt_o rfl) (by decide)
  refine e_Ok.ps2 (x := (0, a)) (y := (1, 0)) (q := 2) 2 rfl ?_
  refine e_Ok.callV rfl (e_dq hd rfl) rfl rfl rfl rfl (c_248 (e_dq hd rfl) hT (by omega)) (fun r1 w2 h3 => ?_)
  obtain ⟨z4, rfl, rfl, q5⟩ := h3
  obtain ⟨rfl, q5⟩ | ⟨rfl, q5⟩ := q5
  · refine e_Ok.nrm (q := 5) (st' := [(0, 1)]) rfl rfl ?_
    refine e_Ok.if1 rfl (fun h6 => ?_) (fun h6 => ?_)
    · replace h6 : (1 : Int) = 0 := h6
      exfalso; omega
    · replace h6 : (1 : Int) ≠ 0 := (show ¬ ((1 : Int) = 0) from h6)
      refine e_Ok.ps3 (x := (1, 0)) (y := (0, 0)) (z := (0, b)) (q := 11) 3 rfl ?_
      refine e_Ok.getr (z := 19) rfl (el_o rfl) rfl rfl (e_Has.eq hT (kt_o rfl)) ⟨by decide, by decide⟩ ?_
      refine e_Ok.getr (z := 20) rfl (el_o rfl) rfl rfl (e_Has.eq hT (kt_o rfl)) ⟨by decide, by decide⟩ ?_
      refine e_Ok.ps1 (x := (0, a)) (q := 18) 1 rfl ?_
      have h7 := (e_Has.get hT (c := 20) (k := a) (lo := (-2147483648)) (hi := 2147483647) (kt_o rfl) (by decide))
      refine e_Ok.ald (z := w 20 a) rfl (el_o rfl) rfl (by omega) rfl (e_bq h7 (by decide) (by decide)) ?_
      refine e_Ok.callS rfl (e_dq hd rfl) rfl rfl (c_242 (by omega) (by omega) (by omega)) (fun r8 w9 h10 => ?_)
      obtain ⟨z11, rfl, rfl, q12⟩ := h10
      obtain ⟨rfl, q12⟩ | ⟨rfl, q12⟩ := q12
      · refine e_Ok.nrm (q := 22) (st' := [(0, 1)]) rfl rfl ?_
        refine e_Ok.if1 rfl (fun h13 => ?_) (fun h13 => ?_)
        · replace h13 : (1 : Int) = 0 := h13
          exfalso; omega
        · replace h13 : (1 : Int) ≠ 0 := (show ¬ ((1 : Int) = 0) from h13)
          refine e_Ok.ps3 (x := (0, 800)) (y := (0, 0)) (z := (0, c)) (q := 30) 3 rfl ?_
          refine e_Ok.callS rfl (e_dq hd rfl) rfl rfl (c_242 (by omega) (by omega) (by omega)) (fun r14 w15 h16 => ?_)
          obtain ⟨z17, rfl, rfl, q18⟩ := h16
          obtain ⟨rfl, q18⟩ | ⟨rfl, q18⟩ := q18
          · refine e_Ok.nrm (q := 33) (st' := [(0, 1)]) rfl rfl ?_
            refine e_Ok.if1 rfl (fun h19 => ?_) (fun h19 => ?_)
            · replace h19 : (1 : Int) ≠ 0 := h19
              refine e_Ok.ps1 (x := (1, 0)) (q := 39) 1 rfl ?_
              refine e_Ok.getf (z := w 0 13) rfl (el_o rfl) rfl rfl rfl (by omega) ?_
              refine e_Ok.if1 rfl (fun h20 => ?_) (fun h20 => ?_)
              · replace h20 : (w 0 13 : Int) = 0 := h20
                refine e_Ok.ps1 (x := (1, 0)) (q := 49) 1 rfl ?_
                refine e_Ok.getr (z := 19) rfl (el_o rfl) rfl rfl (e_Has.eq hT (kt_o rfl)) ⟨by decide, by decide⟩ ?_
                refine e_Ok.run (t' := (57, [(0, (1, 0)), (1, (0, a)), (2, (0, b)), (3, (0, c))], [(0, c), (0, 0), (0, 0), (0, b), (0, a), (1, 19)], w)) 5 rfl ?_
                refine e_Ok.callV rfl (e_dq hd rfl) rfl rfl rfl rfl (c_76 (e_dq hd rfl) (n := w 19 1) (at_ := a) hT rfl (by omega) (by omega) (hf (by omega)) (by omega) (by omega) (by omega) (by omega)) (fun r21 w22 h23 => ?_)
                obtain ⟨z24, rfl, pT, ⟨pg, pe⟩ | ⟨pg, pf, p1, pk, p0, po⟩⟩ := h23
                · refine e_Ok.nrm (q := 60) (st' := [(0, z24)]) rfl rfl ?_
                  refine e_Ok.rets rfl rfl ?_
                  exact ⟨_, rfl, pT, Or.inl pe⟩
                · refine e_Ok.nrm (q := 60) (st' := [(0, z24)]) rfl rfl ?_
                  refine e_Ok.rets rfl rfl ?_
                  exact ⟨_, rfl, pT, Or.inr ⟨by omega, (show e_fr kAp w w22 from e_fr.trans (e_fr.refl w) (e_fr.mono pf (fun c k q => by exact q))), p1, pk, (by rw [p0]; omega), po⟩⟩
              · replace h20 : (w 0 13 : Int) ≠ 0 := (show ¬ ((w 0 13 : Int) = 0) from h20)
                refine e_Ok.ps1 (x := (0, (-2))) (q := 47) 1 rfl ?_
                refine e_Ok.rets rfl rfl ?_
                exact ⟨_, rfl, hT, Or.inl rfl⟩
            · replace h19 : (1 : Int) = 0 := Classical.not_not.mp (show ¬ ((1 : Int) ≠ 0) from h19)
              exfalso; omega
          · refine e_Ok.nrm (q := 33) (st' := [(0, 0)]) rfl rfl ?_
            refine e_Ok.if1 rfl (fun h26 => ?_) (fun h26 => ?_)
            · replace h26 : (0 : Int) ≠ 0 := h26
              exfalso; omega
            · replace h26 : (0 : Int) = 0 := Classical.not_not.mp (show ¬ ((0 : Int) ≠ 0) from h26)
              refine e_Ok.ps1 (x := (0, (-1))) (q := 37) 1 rfl ?_
              refine e_Ok.rets rfl rfl ?_
              exact ⟨_, rfl, hT, Or.inl rfl⟩
      · refine e_Ok.nrm (q := 22) (st' := [(0, 0)]) rfl rfl ?_
        refine e_Ok.if1 rfl (fun h27 => ?_) (fun h27 => ?_)
        · replace h27 : (0 : Int) = 0 := h27
          refine e_Ok.ps1 (x := (0, (-1))) (q := 37) 1 rfl ?_
          refine e_Ok.rets rfl rfl ?_
          exact ⟨_, rfl, hT, Or.inl rfl⟩
        · replace h27 : (0 : Int) ≠ 0 := (show ¬ ((0 : Int) = 0) from h27)
          exfalso; omega
  · refine e_Ok.nrm (q := 5) (st' := [(0, 0)]) rfl rfl ?_
    refine e_Ok.if1 rfl (fun h28 => ?_) (fun h28 => ?_)
    · replace h28 : (0 : Int) = 0 := h28
      refine e_Ok.ps1 (x := (0, (-1))) (q := 37) 1 rfl ?_
      refine e_Ok.rets rfl rfl ?_
      exact ⟨_, rfl, hT, Or.inl rfl⟩
    · replace h28 : (0 : Int) ≠ 0 := (show ¬ ((0 : Int) = 0) from h28)
      exfalso; omega
set_option maxHeartbeats 4000000 in
theorem c_204 {d : Nat} (hd : 27 ≤ d) {w : eW} (hT : e_Has kTy w) (hO : 0 ≤ w 0 13 ∧ w 0 13 ≤ 1) (hf : w 0 13 = 0 → fKn w (w 19 1)) {a : Int} (g_a : (-2147483648) ≤ a ∧ a ≤ 2147483647) {b : Int} (g_b : (-2147483648) ≤ b ∧ b ≤ 2147483647) {c : Int} (g_c : (-2147483648) ≤ c ∧ c ≤ 2147483647) : e_Ok 20 elay kcode eI d 204 (0, [(0, (1, 0)), (1, (0, a)), (2, (0, b)), (3, (0, c))], [], w) (fun r w' => ∃ z : Int, r = [(0, z)] ∧ e_Has kTy w' ∧ (w' = w ∨ (w 0 13 = 0 ∧ e_fr kAp w w' ∧ w' 19 1 = w 19 1 + 1 ∧ fKn w' (w 19 1 + 1) ∧ (w' (w 19 1 + 42) 0 < 4 → w' (w 19 1 + 42) 0 < w 19 0) ∧ ∀ p, 0 ≤ p → p < w 19 1 → w' (p + 42) 0 = w (p + 42) 0))) := by
  obtain ⟨d, rfl⟩ : ∃ e, d = e + 1 := ⟨d - 1, by omega⟩
  have hw0 := e_Has.get hT (c := 0) (k := 11) (lo := 0) (hi := 4) (kt_o rfl) (by decide)
  have hb0 := e_Has.get hT (c := 19) (k := 0) (lo := 0) (hi := 4) (kt_o rfl) (by decide)
  refine e_Ok.ps2 (x := (0, b)) (y := (0, a)) (q := 2) 2 rfl ?_
  refine e_Ok.callS rfl (e_dq hd rfl) rfl rfl (c_243 (e_dq hd rfl) (by omega) (by omega)) (fun r1 w2 h3 => ?_)
  obtain ⟨z4, rfl, rfl, q5⟩ := h3
  obtain ⟨rfl, q5⟩ | ⟨rfl, q5⟩ := q5
  · refine e_Ok.nrm (q := 5) (st' := [(0, 1)]) rfl rfl ?_
    refine e_Ok.if1 rfl (fun h6 => ?_) (fun h6 => ?_)
    · replace h6 : (1 : Int) = 0 := h6
      exfalso; omega
    · replace h6 : (1 : Int) ≠ 0 := (show ¬ ((1 : Int) = 0) from h6)
      refine e_Ok.ps3 (x := (0, 800)) (y := (0, 0)) (z := (0, c)) (q := 13) 3 rfl ?_
      refine e_Ok.callS rfl (e_dq hd rfl) rfl rfl (c_242 (by omega) (by omega) (by omega)) (fun r7 w8 h9 => ?_)
      obtain ⟨z10, rfl, rfl, q11⟩ := h9
      obtain ⟨rfl, q11⟩ | ⟨rfl, q11⟩ := q11
      · refine e_Ok.nrm (q := 16) (st' := [(0, 1)]) rfl rfl ?_
        refine e_Ok.if1 rfl (fun h12 => ?_) (fun h12 => ?_)
        · replace h12 : (1 : Int) ≠ 0 := h12
          refine e_Ok.ps1 (x := (1, 0)) (q := 22) 1 rfl ?_
          refine e_Ok.getf (z := w 0 13) rfl (el_o rfl) rfl rfl rfl (by omega) ?_
          refine e_Ok.if1 rfl (fun h13 => ?_) (fun h13 => ?_)
          · replace h13 : (w 0 13 : Int) = 0 := h13
            refine e_Ok.ps1 (x := (1, 0)) (q := 32) 1 rfl ?_
            refine e_Ok.getr (z := 19) rfl (el_o rfl) rfl rfl (e_Has.eq hT (kt_o rfl)) ⟨by decide, by decide⟩ ?_
            refine e_Ok.run (t' := (41, [(0, (1, 0)), (1, (0, a)), (2, (0, b)), (3, (0, c))], [(0, c), (0, b), (0, a), (0, 0), (0, 8), (1, 19)], w)) 5 rfl ?_
            refine e_Ok.callV rfl (e_dq hd rfl) rfl rfl rfl rfl (c_76 (e_dq hd rfl) (n := w 19 1) (at_ := 8) hT rfl (by omega) (by omega) (hf (by omega)) (by omega) (by omega) (by omega) (by omega)) (fun r14 w15 h16 => ?_)
            obtain ⟨z17, rfl, pT, ⟨pg, pe⟩ | ⟨pg, pf, p1, pk, p0, po⟩⟩ := h16
            · refine e_Ok.nrm (q := 44) (st' := [(0, z17)]) rfl rfl ?_
              refine e_Ok.rets rfl rfl ?_
              exact ⟨_, rfl, pT, Or.inl pe⟩
            · refine e_Ok.nrm (q := 44) (st' := [(0, z17)]) rfl rfl ?_
              refine e_Ok.rets rfl rfl ?_
              exact ⟨_, rfl, pT, Or.inr ⟨by omega, (show e_fr kAp w w15 from e_fr.trans (e_fr.refl w) (e_fr.mono pf (fun c k q => by exact q))), p1, pk, (by rw [p0]; omega), po⟩⟩
          · replace h13 : (w 0 13 : Int) ≠ 0 := (show ¬ ((w 0 13 : Int) = 0) from h13)
            refine e_Ok.ps1 (x := (0, (-2))) (q := 30) 1 rfl ?_
            refine e_Ok.rets rfl rfl ?_
            exact ⟨_, rfl, hT, Or.inl rfl⟩
        · replace h12 : (1 : Int) = 0 := Classical.not_not.mp (show ¬ ((1 : Int) ≠ 0) from h12)
          exfalso; omega
      · refine e_Ok.nrm (q := 16) (st' := [(0, 0)]) rfl rfl ?_
        refine e_Ok.if1 rfl (fun h19 => ?_) (fun h19 => ?_)
        · replace h19 : (0 : Int) ≠ 0 := h19
          exfalso; omega
        · replace h19 : (0 : Int) = 0 := Classical.not_not.mp (show ¬ ((0 : Int) ≠ 0) from h19)
          refine e_Ok.ps1 (x := (0, (-1))) (q := 20) 1 rfl ?_
          refine e_Ok.rets rfl rfl ?_
          exact ⟨_, rfl, hT, Or.inl rfl⟩
  · refine e_Ok.nrm (q := 5) (st' := [(0, 0)]) rfl rfl ?_
    refine e_Ok.if1 rfl (fun h20 => ?_) (fun h20 => ?_)
    · replace h20 : (0 : Int) = 0 := h20
      refine e_Ok.ps1 (x := (0, (-1))) (q := 20) 1 rfl ?_
      refine e_Ok.rets rfl rfl ?_
      exact ⟨_, rfl, hT, Or.inl rfl⟩
    · replace h20 : (0 : Int) ≠ 0 := (show ¬ ((0 : Int) = 0) from h20)
      exfalso; omega
set_option maxHeartbeats 4000000 in
theorem c_209 {d : Nat} (hd : 28 ≤ d) {w : eW} (hT : e_Has kTy w) (hO : 0 ≤ w 0 13 ∧ w 0 13 ≤ 1) (hA : w 0 13 = 0 → kAc w) {a : Int} (g_a : (-2147483648) ≤ a ∧ a ≤ 2147483647) {b : Int} (g_b : (-2147483648) ≤ b ∧ b ≤ 2147483647) {c : Int} (g_c : 0 ≤ c ∧ c ≤ 1) : e_Ok 20 elay kcode eI d 209 (0, [(0, (1, 0)), (1, (0, a)), (2, (0, b)), (3, (0, c))], [], w) (fun r w' => ∃ z : Int, r = [(0, z)] ∧ e_Has kTy w' ∧ (w' = w ∨ (w 0 13 = 0 ∧ e_fr kCn w w' ∧ bP w'))) := by
  obtain ⟨d, rfl⟩ : ∃ e, d = e + 1 := ⟨d - 1, by omega⟩
  have hw0 := e_Has.get hT (c := 0) (k := 11) (lo := 0) (hi := 4) (kt_o rfl) (by decide)
  refine e_Ok.ps1 (x := (0, a)) (q := 1) 1 rfl ?_
  refine e_Ok.callS rfl (e_dq hd rfl) rfl rfl (c_245 (e_dq hd rfl) (by omega)) (fun r1 w2 h3 => ?_)
  obtain ⟨z4, rfl, rfl, q5⟩ := h3
  obtain ⟨rfl, q5⟩ | ⟨rfl, q5⟩ := q5
  · refine e_Ok.nrm (q := 4) (st' := [(0, 1)]) rfl rfl ?_
    refine e_Ok.if1 rfl (fun h6 => ?_) (fun h6 => ?_)
    · replace h6 : (1 : Int) = 0 := h6
      exfalso; omega
    · replace h6 : (1 : Int) ≠ 0 := (show ¬ ((1 : Int) = 0) from h6)
      refine e_Ok.ps1 (x := (0, b)) (q := 8) 1 rfl ?_
      refine e_Ok.callS rfl (e_dq hd rfl) rfl rfl (c_245 (e_dq hd rfl) (by omega)) (fun r7 w8 h9 => ?_)
      obtain ⟨z10, rfl, rfl, q11⟩ := h9
      obtain ⟨rfl, q11⟩ | ⟨rfl, q11⟩ := q11
      · refine e_Ok.nrm (q := 11) (st' := [(0, 1)]) rfl rfl ?_
        refine e_Ok.if1 rfl (fun h12 => ?_) (fun h12 => ?_)
        · replace h12 : (1 : Int) ≠ 0 := h12
          refine e_Ok.ps1 (x := (1, 0)) (q := 17) 1 rfl ?_
          refine e_Ok.getf (z := w 0 13) rfl (el_o rfl) rfl rfl rfl (by omega) ?_
          refine e_Ok.if1 rfl (fun h13 => ?_) (fun h13 => ?_)
          · replace h13 : (w 0 13 : Int) ≠ 0 := h13
            refine e_Ok.ps1 (x := (0, (-2))) (q := 37) 1 rfl ?_
            refine e_Ok.rets rfl rfl ?_
            exact ⟨_, rfl, hT, Or.inl rfl⟩
          · replace h13 : (w 0 13 : Int) = 0 := Classical.not_not.mp (show ¬ ((w 0 13 : Int) ≠ 0) from h13)
            refine e_Ok.ps1 (x := (1, 0)) (q := 24) 1 rfl ?_
            refine e_Ok.getr (z := 10) rfl (el_o rfl) rfl rfl (e_Has.eq hT (kt_o rfl)) ⟨by decide, by decide⟩ ?_
            refine e_Ok.ps2 (x := (0, b)) (y := (0, a)) (q := 29) 2 rfl ?_
            refine e_Ok.callV rfl (e_dq hd rfl) rfl rfl rfl rfl (c_111 hT (hA (by omega)) (by omega) (by omega)) (fun r14 w15 h16 => ?_)
            obtain ⟨z17, rfl, rfl, cr, cx⟩ := h16
            refine e_Ok.nrm (q := 32) (st' := [(0, z17)]) rfl rfl ?_
            refine e_Ok.if1 rfl (fun h18 => ?_) (fun h18 => ?_)
            · replace h18 : (z17 : Int) ≠ 0 := h18
              refine e_Ok.ps1 (x := (1, 0)) (q := 39) 1 rfl ?_
              refine e_Ok.getr (z := 10) rfl (el_o rfl) rfl rfl (e_Has.eq hT (kt_o rfl)) ⟨by decide, by decide⟩ ?_
              refine e_Ok.ps3 (x := (0, c)) (y := (0, b)) (z := (0, a)) (q := 45) 3 rfl ?_
              refine e_Ok.callV rfl (e_dq hd rfl) rfl rfl rfl rfl (c_112 (e_dq hd rfl) hT (hA (by omega)) (by omega) (by omega) (by omega) (cx (by omega)).2) (fun r19 w20 h21 => ?_)
              obtain ⟨rfl, nf, nT, np⟩ := h21
              refine e_Ok.nrm (q := 48) (st' := []) rfl rfl ?_
              refine e_Ok.ps1 (x := (0, 0)) (q := 49) 1 rfl ?_
              refine e_Ok.rets rfl rfl ?_
              exact ⟨_, rfl, nT, Or.inr ⟨by omega, (show e_fr kCn w w20 from e_fr.trans (e_fr.refl w) (e_fr.mono nf (fun c k q => by exact q))), np⟩⟩
            · replace h18 : (z17 : Int) = 0 := Classical.not_not.mp (show ¬ ((z17 : Int) ≠ 0) from h18)
              refine e_Ok.ps1 (x := (0, (-2))) (q := 37) 1 rfl ?_
              refine e_Ok.rets rfl rfl ?_
              exact ⟨_, rfl, hT, Or.inl rfl⟩
        · replace h12 : (1 : Int) = 0 := Classical.not_not.mp (show ¬ ((1 : Int) ≠ 0) from h12)
          exfalso; omega
      · refine e_Ok.nrm (q := 11) (st' := [(0, 0)]) rfl rfl ?_
        refine e_Ok.if1 rfl (fun h23 => ?_) (fun h23 => ?_)
        · replace h23 : (0 : Int) ≠ 0 := h23
          exfalso; omega
        · replace h23 : (0 : Int) = 0 := Classical.not_not.mp (show ¬ ((0 : Int) ≠ 0) from h23)
          refine e_Ok.ps1 (x := (0, (-1))) (q := 15) 1 rfl ?_
          refine e_Ok.rets rfl rfl ?_
          exact ⟨_, rfl, hT, Or.inl rfl⟩
  · refine e_Ok.nrm (q := 4) (st' := [(0, 0)]) rfl rfl ?_
    refine e_Ok.if1 rfl (fun h24 => ?_) (fun h24 => ?_)
    · replace h24 : (0 : Int) = 0 := h24
      refine e_Ok.ps1 (x := (0, (-1))) (q := 15) 1 rfl ?_
      refine e_Ok.rets rfl rfl ?_
      exact ⟨_, rfl, hT, Or.inl rfl⟩
    · replace h24 : (0 : Int) ≠ 0 := (show ¬ ((0 : Int) = 0) from h24)
      exfalso; omega
theorem no_du_0 : ¬ kCL 0 6 := by unfold kCL kNw; omega
theorem no_du_1 : ¬ kCL 0 3 := by unfold kCL kNw; omega
theorem no_du_2 {k : Int} : ¬ kPc 0 k := by unfold kPc; omega
theorem no_du_3 : ¬ kCL 0 4 := by unfold kCL kNw; omega
theorem no_du_4 : ¬ kCL 0 5 := by unfold kCL kNw; omega
theorem no_du_5 {k : Int} : ¬ kCc 0 k := by unfold kCc; omega
theorem no_du_6 : ¬ kCL 0 7 := by unfold kCL kNw; omega
theorem no_du_7 : ¬ kCL 0 10 := by unfold kCL kNw; omega
theorem no_du_8 {k : Int} : ¬ kF74 19 k := by unfold kF74; omega
theorem no_du_9 {k : Int} : ¬ kCc 19 k := by unfold kCc; omega
theorem no_du_10 {k : Int} : ¬ kNw 0 k := by unfold kNw; omega
theorem no_du_11 {k : Int} : ¬ kF74 0 k := by unfold kF74; omega
theorem no_du_12 {k : Int} : ¬ kNw 19 k := by unfold kNw; omega
theorem no_du_13 {k : Int} : ¬ kNw 262 k := by unfold kNw; omega
theorem no_du_14 {k : Int} : ¬ kF74 262 k := by unfold kF74; omega
theorem no_du_15 : ¬ kCL 0 2 := by unfold kCL kNw; omega
theorem no_du_16 {k : Int} : ¬ kCL 9 k := by unfold kCL kNw; omega
set_option maxHeartbeats 4000000 in
theorem c_251 {d : Nat} (hd : 28 ≤ d) {w : eW} (hT : e_Has kTy w) (hC : ∀ a, 0 ≤ a → a ≤ 3 → isCd (w (17 * a + 86) 7)) (hR : isCd (w 1 3)) (hX : ∀ a, 0 ≤ a → a ≤ 3 → w (17 * a + 86) 7 ≠ w 1 3) (hD : ∀ a b, 0 ≤ a → a ≤ 3 → 0 ≤ b → b ≤ 3 → a ≠ b → w (17 * a + 86) 7 ≠ w (17 * b + 86) 7) : e_Ok 20 elay kcode eI d 251 (0, [(0, (1, 0))], [], w) (fun r w' => r = [] ∧ e_fr kCL w w' ∧ e_Has kTy w' ∧ w' 0 11 = 0 ∧ w' 0 12 = 0 ∧ w' 0 13 = 0 ∧ kBld w') := by
  obtain ⟨d, rfl⟩ : ∃ e, d = e + 1 := ⟨d - 1, by omega⟩
  refine e_Ok.ps2 (x := (0, 0)) (y := (1, 0)) (q := 2) 2 rfl ?_
  refine e_Ok.putf rfl (el_o rfl) rfl rfl ?_
  generalize hw1 : e_up w 0 11 0 = w1
  have hT3 : e_Has kTy w1 := e_Has.upr hT hw1 (kt_o rfl) (by omega)
  refine e_Ok.ps2 (x := (0, 0)) (y := (1, 0)) (q := 7) 2 rfl ?_
  refine e_Ok.putf rfl (el_o rfl) rfl rfl ?_
  generalize hw4 : e_up w1 0 12 0 = w4
  have hT6 : e_Has kTy w4 := e_Has.ups hT3 hw4 (kt_o rfl)
  refine e_Ok.ps2 (x := (0, 0)) (y := (1, 0)) (q := 12) 2 rfl ?_
  refine e_Ok.putb rfl (el_o rfl) rfl rfl (by omega) ?_
  generalize hw7 : e_up w4 0 13 0 = w7
  have hT9 : e_Has kTy w7 := e_Has.ups hT6 hw7 (kt_o rfl)
  refine e_Ok.run (t' := (17, [(1, (0, 0)), (0, (1, 0))], [], w7)) 2 rfl ?_
  have hL10 : ∀ (nn : Nat) (y1 : Int) (v1 : eW), e_fr kCL w v1 ∧ e_Has kTy v1 ∧ (∀ a, 0 ≤ a → a < y1 → mK0 w v1 a) ∧ ((v1 0 11 = 0 ∧ v1 0 12 = 0 ∧ v1 0 13 = 0)) ∧ ((0 ≤ y1 ∧ y1 ≤ 4)) → 5 - y1 < nn → e_Ok 20 elay kcode eI (d + 1) 251 (17, [(0, (1, 0)), (1, (0, y1))], [], v1) (fun r w' => r = [] ∧ e_fr kCL w w' ∧ e_Has kTy w' ∧ w' 0 11 = 0 ∧ w' 0 12 = 0 ∧ w' 0 13 = 0 ∧ kBld w') := by
    intro nn
    induction nn with
    | zero => intro y1 v1 hj hm; obtain ⟨j12, j13, j14, j15, j16⟩ := hj; exfalso; omega
    | succ nn ih11 =>
      intro y1 v1 hj hm
      obtain ⟨j12, j13, j14, j15, j16⟩ := hj
      refine e_Ok.run (t' := (19, [(0, (1, 0)), (1, (0, y1))], [(0, 4), (0, y1)], v1)) 2 rfl ?_
      refine e_Ok.if2 rfl (fun h17 => ?_) (fun h17 => ?_)
      · replace h17 : (y1 : Int) ≥ 4 := h17
        have M0 : ∀ a, 0 ≤ a → a ≤ 3 → mK0 w v1 a := fun a g1 g2 => j14 a g1 (by omega)
        refine e_Ok.ps1 (x := (1, 0)) (q := 42) 1 rfl ?_
        refine e_Ok.getr (z := 250) rfl (el_o rfl) rfl rfl ((j12 0 6 no_du_0).trans (e_Has.eq hT (kt_o rfl))) ⟨by decide, by decide⟩ ?_
        refine e_Ok.ps1 (x := (0, 0)) (q := 46) 1 rfl ?_
        refine e_Ok.putf rfl (el_o rfl) rfl rfl ?_
        generalize hw18 : e_up v1 250 0 0 = w18
        have hT20 : e_Has kTy w18 := e_Has.upr j13 hw18 rfl (by omega)
        have g21 : e_fr (fun c k => c = 250 ∧ k = 0) v1 w18 := fun c k g => by have g2 : ¬ (c = 250 ∧ k = 0) := g; rw [← hw18]; exact e_up_ne _ _ (by omega)
        have M22 : ∀ a, 0 ≤ a → a ≤ 3 → mK0 w w18 a := fun a g1 g2 => mK0.fr ⟨g1, g2⟩ (hC a g1 g2) g21 (fun c k q => by omega) (M0 a g1 g2)
        refine e_Ok.ps1 (x := (1, 0)) (q := 50) 1 rfl ?_
        refine e_Ok.getr (z := 250) rfl (el_o rfl) rfl rfl (e_uq hw18 (Or.inl (by decide)) ((j12 0 6 no_du_0).trans (e_Has.eq hT (kt_o rfl)))) ⟨by decide, by decide⟩ ?_
        refine e_Ok.ps1 (x := (0, 0)) (q := 54) 1 rfl ?_
        refine e_Ok.putf rfl (el_o rfl) rfl rfl ?_
        generalize hw23 : e_up w18 250 1 0 = w23
        have hT25 : e_Has kTy w23 := e_Has.upr hT20 hw23 (kt_o rfl) (by omega)
        have g26 : e_fr (fun c k => c = 250 ∧ k = 1) w18 w23 := fun c k g => by have g2 : ¬ (c = 250 ∧ k = 1) := g; rw [← hw23]; exact e_up_ne _ _ (by omega)
        have M27 : ∀ a, 0 ≤ a → a ≤ 3 → mK0 w w23 a := fun a g1 g2 => mK0.fr ⟨g1, g2⟩ (hC a g1 g2) g26 (fun c k q => by omega) (M22 a g1 g2)
        refine e_Ok.ps1 (x := (1, 0)) (q := 58) 1 rfl ?_
        refine e_Ok.getr (z := 10) rfl (el_o rfl) rfl rfl (e_uq hw23 (Or.inl (by decide)) (e_uq hw18 (Or.inl (by decide)) ((j12 0 3 no_du_1).trans (e_Has.eq hT (kt_o rfl))))) ⟨by decide, by decide⟩ ?_
        refine e_Ok.callV rfl (e_dq hd rfl) rfl rfl rfl rfl (c_109 (e_dq hd rfl) hT25) (fun r28 w29 h30 => ?_)
        obtain ⟨rfl, q31f, q31T, q31x⟩ := h30
        have M33 : ∀ a, 0 ≤ a → a ≤ 3 → mK0 w w29 a := fun a g1 g2 => mK0.fr ⟨g1, g2⟩ (hC a g1 g2) q31f (fun c k q => by unfold kPc at q; omega) (M27 a g1 g2)
        refine e_Ok.nrm (q := 64) (st' := []) rfl rfl ?_
        refine e_Ok.ps1 (x := (1, 0)) (q := 65) 1 rfl ?_
        refine e_Ok.getr (z := 19) rfl (el_o rfl) rfl rfl ((q31f 0 4 no_du_2).trans (e_uq hw23 (Or.inl (by decide)) (e_uq hw18 (Or.inl (by decide)) ((j12 0 4 no_du_3).trans (e_Has.eq hT (kt_o rfl)))))) ⟨by decide, by decide⟩ ?_
        refine e_Ok.ps1 (x := (0, 0)) (q := 69) 1 rfl ?_
        refine e_Ok.putf rfl (el_o rfl) rfl rfl ?_
        generalize hw34 : e_up w29 19 0 0 = w34
        have hT36 : e_Has kTy w34 := e_Has.upr q31T hw34 (kt_o rfl) (by omega)
        have g37 : e_fr (fun c k => c = 19 ∧ k = 0) w29 w34 := fun c k g => by have g2 : ¬ (c = 19 ∧ k = 0) := g; rw [← hw34]; exact e_up_ne _ _ (by omega)
        have M38 : ∀ a, 0 ≤ a → a ≤ 3 → mK0 w w34 a := fun a g1 g2 => mK0.fr ⟨g1, g2⟩ (hC a g1 g2) g37 (fun c k q => by omega) (M33 a g1 g2)
        have B40 : bP w34 := bP.eq q31T (fun c k g => g37 c k (by unfold dBp at g; omega)) q31x
        refine e_Ok.ps1 (x := (1, 0)) (q := 73) 1 rfl ?_
        refine e_Ok.getr (z := 19) rfl (el_o rfl) rfl rfl (e_uq hw34 (Or.inl (by decide)) ((q31f 0 4 no_du_2).trans (e_uq hw23 (Or.inl (by decide)) (e_uq hw18 (Or.inl (by decide)) ((j12 0 4 no_du_3).trans (e_Has.eq hT (kt_o rfl))))))) ⟨by decide, by decide⟩ ?_
        refine e_Ok.ps1 (x := (0, 0)) (q := 77) 1 rfl ?_
        refine e_Ok.putf rfl (el_o rfl) rfl rfl ?_
        generalize hw41 : e_up w34 19 1 0 = w41
        have hT43 : e_Has kTy w41 := e_Has.upr hT36 hw41 (kt_o rfl) (by omega)
        have g44 : e_fr (fun c k => c = 19 ∧ k = 1) w34 w41 := fun c k g => by have g2 : ¬ (c = 19 ∧ k = 1) := g; rw [← hw41]; exact e_up_ne _ _ (by omega)
        have M45 : ∀ a, 0 ≤ a → a ≤ 3 → mK0 w w41 a := fun a g1 g2 => mK0.fr ⟨g1, g2⟩ (hC a g1 g2) g44 (fun c k q => by omega) (M38 a g1 g2)
        have B46 : bP w41 := bP.eq hT36 (fun c k g => g44 c k (by unfold dBp at g; omega)) B40
        refine e_Ok.ps1 (x := (1, 0)) (q := 81) 1 rfl ?_
        refine e_Ok.getr (z := 74) rfl (el_o rfl) rfl rfl (e_uq hw41 (Or.inl (by decide)) (e_uq hw34 (Or.inl (by decide)) ((q31f 0 5 no_du_2).trans (e_uq hw23 (Or.inl (by decide)) (e_uq hw18 (Or.inl (by decide)) ((j12 0 5 no_du_4).trans (e_Has.eq hT (kt_o rfl)))))))) ⟨by decide, by decide⟩ ?_
        refine e_Ok.callV rfl (e_dq hd rfl) rfl rfl rfl rfl (c_25 hT43) (fun r47 w48 h49 => ?_)
        obtain ⟨rfl, q50f, q50T⟩ := h49
        have M52 : ∀ a, 0 ≤ a → a ≤ 3 → mK0 w w48 a := fun a g1 g2 => mK0.fr ⟨g1, g2⟩ (hC a g1 g2) q50f (fun c k q => by unfold kCc at q; omega) (M45 a g1 g2)
        have B53 : bP w48 := bP.eq hT43 (fun c k g => q50f c k (by unfold dBp at g; unfold kCc; omega)) B46
        refine e_Ok.nrm (q := 87) (st' := []) rfl rfl ?_
        refine e_Ok.ps1 (x := (1, 0)) (q := 88) 1 rfl ?_
        refine e_Ok.getr (z := 262) rfl (el_o rfl) rfl rfl ((q50f 0 7 no_du_5).trans (e_uq hw41 (Or.inl (by decide)) (e_uq hw34 (Or.inl (by decide)) ((q31f 0 7 no_du_2).trans (e_uq hw23 (Or.inl (by decide)) (e_uq hw18 (Or.inl (by decide)) ((j12 0 7 no_du_6).trans (e_Has.eq hT (kt_o rfl))))))))) ⟨by decide, by decide⟩ ?_
        refine e_Ok.ps1 (x := (0, 0)) (q := 92) 1 rfl ?_
        refine e_Ok.putf rfl (el_o rfl) rfl rfl ?_
        generalize hw54 : e_up w48 262 0 0 = w54
        have hT56 : e_Has kTy w54 := e_Has.ups q50T hw54 (kt_o rfl)
        have g57 : e_fr (fun c k => c = 262 ∧ k = 0) w48 w54 := fun c k g => by have g2 : ¬ (c = 262 ∧ k = 0) := g; rw [← hw54]; exact e_up_ne _ _ (by omega)
        have M58 : ∀ a, 0 ≤ a → a ≤ 3 → mK0 w w54 a := fun a g1 g2 => mK0.fr ⟨g1, g2⟩ (hC a g1 g2) g57 (fun c k q => by omega) (M52 a g1 g2)
        have B59 : bP w54 := bP.eq q50T (fun c k g => g57 c k (by unfold dBp at g; omega)) B53
        refine e_Ok.ps1 (x := (1, 0)) (q := 96) 1 rfl ?_
        refine e_Ok.getr (z := 274) rfl (el_o rfl) rfl rfl (e_uq hw54 (Or.inl (by decide)) ((q50f 0 10 no_du_5).trans (e_uq hw41 (Or.inl (by decide)) (e_uq hw34 (Or.inl (by decide)) ((q31f 0 10 no_du_2).trans (e_uq hw23 (Or.inl (by decide)) (e_uq hw18 (Or.inl (by decide)) ((j12 0 10 no_du_7).trans (e_Has.eq hT (kt_o rfl)))))))))) ⟨by decide, by decide⟩ ?_
        refine e_Ok.ps1 (x := (0, 0)) (q := 100) 1 rfl ?_
        refine e_Ok.callS rfl (e_dq hd rfl) rfl rfl (c_452_74 hT56) (fun r60 w61 h62 => ?_)
        obtain ⟨rfl, q63f, q63T, q63x⟩ := h62
        have M65 : ∀ a, 0 ≤ a → a ≤ 3 → mK0 w w61 a := fun a g1 g2 => mK0.fr ⟨g1, g2⟩ (hC a g1 g2) q63f (fun c k q => by unfold kF74 at q; omega) (M58 a g1 g2)
        have B66 : bP w61 := bP.eq hT56 (fun c k g => q63f c k (by unfold dBp at g; unfold kF74; omega)) B59
        refine e_Ok.nrm (q := 103) (st' := []) rfl rfl ?_
        refine e_Ok.ps1 (x := (1, 0)) (q := 104) 1 rfl ?_
        have r19 : w61 19 1 = 0 := ((q63f 19 1 no_du_8).trans (e_uq hw54 (Or.inl (by decide)) ((q50f 19 1 no_du_9).trans (e_ue hw41))))
        refine e_Ok.callV rfl (e_dq hd rfl) rfl rfl rfl rfl (c_252 (e_dq hd rfl) q63T (fun a g1 g2 => by have m := M65 a g1 g2; unfold mK0 at m; unfold kn1; omega) (fun p g1 g2 => by omega)) (fun r67 w68 h69 => ?_)
        obtain ⟨rfl, wf, wT, -, wr⟩ := h69
        have f70 : e_fr kCL w w68 := e_fr.trans (show e_fr kCL w w61 from e_fr.trans (show e_fr kCL w w54 from e_fr.up (show e_fr kCL w w48 from e_fr.trans (show e_fr kCL w w41 from e_fr.up (show e_fr kCL w w34 from e_fr.up (show e_fr kCL w w29 from e_fr.trans (show e_fr kCL w w23 from e_fr.up (show e_fr kCL w w18 from e_fr.up j12 hw18 (Or.inr (Or.inr (Or.inr (Or.inr (Or.inr (Or.inr (Or.inr (Or.inr (Or.inr (Or.inl (⟨rfl, Or.inl rfl⟩)))))))))))) hw23 (Or.inr (Or.inr (Or.inr (Or.inr (Or.inr (Or.inr (Or.inr (Or.inr (Or.inr (Or.inl (⟨rfl, Or.inr rfl⟩)))))))))))) (e_fr.mono q31f (fun c k q => by exact (by rcases q with q | q; exact Or.inr (Or.inr (Or.inr (Or.inr (Or.inl q)))); exact Or.inr (Or.inr (Or.inr (Or.inr (Or.inr (Or.inl q))))))))) hw34 (Or.inr (Or.inr (Or.inr (Or.inr (Or.inr (Or.inr (Or.inl (⟨rfl, Or.inl rfl⟩))))))))) hw41 (Or.inr (Or.inr (Or.inr (Or.inr (Or.inr (Or.inr (Or.inl (⟨rfl, Or.inr rfl⟩))))))))) (e_fr.mono q50f (fun c k q => by exact (by rcases q with q | q; exact Or.inr (Or.inr (Or.inr (Or.inr (Or.inr (Or.inr (Or.inr (Or.inl q))))))); exact Or.inr (Or.inr (Or.inr (Or.inr (Or.inr (Or.inr (Or.inr (Or.inr (Or.inl q)))))))))))) hw54 (Or.inr (Or.inr (Or.inr (Or.inr (Or.inr (Or.inr (Or.inr (Or.inr (Or.inr (Or.inr (Or.inl (⟨rfl, rfl⟩))))))))))))) (e_fr.mono q63f (fun c k q => by exact (Or.inr (Or.inr (Or.inr (Or.inr (Or.inr (Or.inr (Or.inr (Or.inr (Or.inr (Or.inr (Or.inr (q))))))))))))))) (e_fr.mono wf (fun c k q => by exact Or.inl q))
        have wM : ∀ a, 0 ≤ a → a ≤ 3 → mK0 w w68 a := fun a g1 g2 => (M65 a g1 g2).eq (wf _ _ (nw_a ⟨g1, g2⟩ (by omega))) (wf _ _ (nw_x ⟨g1, g2⟩).1) (wf _ _ (nw_x ⟨g1, g2⟩).2) (wf _ _ (nw_cd (hC a g1 g2))) (wf _ _ (nw_cd (hC a g1 g2)))
        have wB : bP w68 := bP.eq q63T (fun c k g => wf c k (by rcases g with rfl | rfl <;> (unfold kNw; omega))) B66
        refine e_Ok.nrm (q := 107) (st' := []) rfl rfl ?_
        refine e_Ok.rets rfl rfl ?_
        have z11 : w68 0 11 = 0 := ((wf 0 11 no_du_10).trans ((q63f 0 11 no_du_11).trans (e_uq hw54 (Or.inl (by decide)) ((q50f 0 11 no_du_5).trans (e_uq hw41 (Or.inl (by decide)) (e_uq hw34 (Or.inl (by decide)) ((q31f 0 11 no_du_2).trans (e_uq hw23 (Or.inl (by decide)) (e_uq hw18 (Or.inl (by decide)) j15.1)))))))))
        have z12 : w68 0 12 = 0 := ((wf 0 12 no_du_10).trans ((q63f 0 12 no_du_11).trans (e_uq hw54 (Or.inl (by decide)) ((q50f 0 12 no_du_5).trans (e_uq hw41 (Or.inl (by decide)) (e_uq hw34 (Or.inl (by decide)) ((q31f 0 12 no_du_2).trans (e_uq hw23 (Or.inl (by decide)) (e_uq hw18 (Or.inl (by decide)) j15.2.1)))))))))
        have z13 : w68 0 13 = 0 := ((wf 0 13 no_du_10).trans ((q63f 0 13 no_du_11).trans (e_uq hw54 (Or.inl (by decide)) ((q50f 0 13 no_du_5).trans (e_uq hw41 (Or.inl (by decide)) (e_uq hw34 (Or.inl (by decide)) ((q31f 0 13 no_du_2).trans (e_uq hw23 (Or.inl (by decide)) (e_uq hw18 (Or.inl (by decide)) j15.2.2)))))))))
        have z19 : w68 19 0 = 0 := ((wf 19 0 no_du_12).trans ((q63f 19 0 no_du_8).trans (e_uq hw54 (Or.inl (by decide)) ((q50f 19 0 no_du_9).trans (e_uq hw41 (Or.inr (by decide)) (e_ue hw34))))))
        have z91 : w68 19 1 = 0 := ((wf 19 1 no_du_12).trans ((q63f 19 1 no_du_8).trans (e_uq hw54 (Or.inl (by decide)) ((q50f 19 1 no_du_9).trans (e_ue hw41)))))
        have z62 : w68 262 0 = 0 := ((wf 262 0 no_du_13).trans ((q63f 262 0 no_du_14).trans (e_ue hw54)))
        have z7 : ∀ a, 0 ≤ a → a ≤ 3 → w68 (17 * a + 86) 7 = w (17 * a + 86) 7 := fun a g1 g2 => f70 _ _ (cl_7 ⟨g1, g2⟩)
        have z3 : w68 1 3 = w 1 3 := f70 _ _ cl_13
        have kb : kBld w68 := by
          refine ⟨fun a g1 g2 => ?_, ⟨by rw [z3]; exact hR, fun a g1 g2 => ?_, fun a b g1 g2 g3 g4 g5 => by rw [z7 a g1 g2, z7 b g3 g4]; exact hD a b g1 g2 g3 g4 g5⟩, wB, ⟨fun p g1 g2 => by omega, by rw [z91]; exact ⟨fun b g1 g2 => by omega, fun p g1 g2 => by omega⟩⟩, z62⟩
          · have m := wM a g1 g2
            have ra := (wr.1 a g1 g2).1
            have r1 := ra.1
            unfold mK0 at m
            exact ⟨by unfold kn1; omega, by omega, ra.2.2.2.1, fun j k1 k2 => by omega⟩
          · have m := wM a g1 g2
            unfold mK0 at m
            rw [z7 a g1 g2, z3]
            exact ⟨codK.zero (hC a g1 g2) m.2.2.1 m.2.2.2, hX a g1 g2⟩
        exact ⟨rfl, f70, wT, z11, z12, z13, kb⟩
      · replace h17 : (y1 : Int) < 4 := Int.not_le.mp (show ¬ ((y1 : Int) ≥ 4) from h17)
        refine e_Ok.ps1 (x := (1, 0)) (q := 23) 1 rfl ?_
        refine e_Ok.getr (z := 9) rfl (el_o rfl) rfl rfl ((j12 0 2 no_du_15).trans (e_Has.eq hT (kt_o rfl))) ⟨by decide, by decide⟩ ?_
        refine e_Ok.ps1 (x := (0, y1)) (q := 27) 1 rfl ?_
        refine e_Ok.aald (z := 17 * y1 + 86) rfl (el_o rfl) rfl (by omega) ((j12 9 y1 no_du_16).trans (Eq.trans (e_Has.eq hT (k9 (by omega))) (by omega))) (by omega) ?_
        refine e_Ok.ps4 (x := (0, 0)) (y := (0, 0)) (z := (0, 0)) (u := (0, 0)) (q := 32) 4 rfl ?_
        have hcy : v1 (17 * y1 + 86) 7 = w (17 * y1 + 86) 7 := j12 _ _ (cl_7 (by omega))
        refine e_Ok.callV rfl (e_dq hd rfl) rfl (lA0 (a := y1) (by omega) (by omega)) rfl rfl (c_1 (e_dq hd rfl) (a := y1) (cd := w (17 * y1 + 86) 7) j13 (by omega) hcy (hC y1 (by omega) (by omega)) (by omega) (by omega) (by omega) (by omega)) (fun r71 w72 h73 => ?_)
        obtain ⟨rfl, mf, mT, m8, mx, -, mc⟩ := h73
        have hcc := hC y1 (by omega) (by omega); unfold isCd at hcc
        have mF : e_fr kCL w w72 := e_fr.trans j12 (e_fr.mono mf (fun c k q => cl_mk (by omega) (hC y1 (by omega) (by omega)) q))
        refine e_Ok.nrm (q := 35) (st' := []) rfl rfl ?_
        refine e_Ok.inc (z := y1 + 1) rfl rfl (by first | with_reducible rfl | omega) (by omega) ?_
        show e_Ok 20 elay kcode eI (d + 1) 251 (38, [(1, (0, y1 + 1)), (0, (1, 0))], [], w72) _
        refine e_Ok.ps0 (q := 17) 1 rfl ?_
        refine e_Ok.sub kAlk (e_sub_of rfl ?_) (ih11 (y1 + 1) w72 ⟨mF, mT, (fun a g1 g2 => by by_cases e : a = y1; (rw [e]; exact ⟨m8, mx, mc⟩); (have hd := hD a y1 (by omega) (by omega) (by omega) (by omega) e; have ha := hC a (by omega) (by omega); unfold isCd at ha; exact (j14 a g1 (by omega)).eq (mf _ _ (by unfold kMk; omega)) (mf _ _ (by unfold kMk; omega)) (mf _ _ (by unfold kMk; omega)) (mf _ _ (by unfold kMk; omega)) (mf _ _ (by unfold kMk; omega)))), ⟨(mf _ _ (by unfold kMk; omega)).trans j15.1, (mf _ _ (by unfold kMk; omega)).trans j15.2.1, (mf _ _ (by unfold kMk; omega)).trans j15.2.2⟩, (by omega)⟩ (by omega))
        exact ⟨rfl, rfl, trivial⟩
  refine e_Ok.sub kAlk (e_sub_of rfl ?_) (hL10 (5 + 1 : Int).toNat 0 w7 ⟨(show e_fr kCL w w7 from e_fr.up (show e_fr kCL w w4 from e_fr.up (show e_fr kCL w w1 from e_fr.up (e_fr.refl w) hw1 (Or.inr (Or.inl (⟨rfl, by decide, by decide⟩)))) hw4 (Or.inr (Or.inl (⟨rfl, by decide, by decide⟩)))) hw7 (Or.inr (Or.inl (⟨rfl, by decide, by decide⟩)))), hT9, (fun a g1 g2 => by omega), ⟨(e_uq hw7 (Or.inr (by first | decide | omega)) (e_uq hw4 (Or.inr (by first | decide | omega)) (e_ue hw1))), (e_uq hw7 (Or.inr (by first | decide | omega)) (e_ue hw4)), (e_ue hw7)⟩, (by omega)⟩ (by omega))
  exact ⟨rfl, rfl, trivial⟩
theorem c_192 {d : Nat} (hd : 30 ≤ d) {w : eW} (hT : e_Has kTy w) (hC : ∀ a, 0 ≤ a → a ≤ 3 → isCd (w (17 * a + 86) 7)) (hR : isCd (w 1 3)) (hX : ∀ a, 0 ≤ a → a ≤ 3 → w (17 * a + 86) 7 ≠ w 1 3) (hD : ∀ a b, 0 ≤ a → a ≤ 3 → 0 ≤ b → b ≤ 3 → a ≠ b → w (17 * a + 86) 7 ≠ w (17 * b + 86) 7) : e_Ok 20 elay kcode eI d 192 (0, [(0, (1, 0))], [], w) (fun r w' => ∃ z : Int, r = [(0, z)] ∧ e_fr kCL w w' ∧ e_Has kTy w' ∧ w' 0 11 = 0 ∧ w' 0 12 = 0 ∧ w' 0 13 = 0 ∧ kBld w') := by
  obtain ⟨d, rfl⟩ : ∃ e, d = e + 1 := ⟨d - 1, by omega⟩
  refine e_Ok.ps1 (x := (1, 0)) (q := 1) 1 rfl ?_
  refine e_Ok.getr (z := 74) rfl (el_o rfl) rfl rfl (e_Has.eq hT (kt_o rfl)) ⟨by decide, by decide⟩ ?_
  have h1 := (e_Has.get hT (c := 74) (k := 0) (lo := 0) (hi := 6000) (kt_o rfl) (by decide))
  refine e_Ok.getf (z := w 74 0) rfl (el_o rfl) rfl rfl rfl (e_bq h1 (by decide) (by decide)) ?_
  refine e_Ok.run (t' := (9, [(1, (0, w 74 0)), (0, (1, 0))], [(1, 0)], w)) 2 rfl ?_
  refine e_Ok.callV rfl (e_dq hd rfl) rfl rfl rfl rfl (c_251 (e_dq hd rfl) hT hC hR hX hD) (fun r2 w3 h4 => ?_)
  obtain ⟨rfl, cf, cT, cx⟩ := h4
  refine e_Ok.nrm (q := 12) (st' := []) rfl rfl ?_
  refine e_Ok.ps1 (x := (0, w 74 0)) (q := 13) 1 rfl ?_
  refine e_Ok.rets rfl rfl ?_
  exact ⟨_, rfl, cf, cT, cx⟩
theorem c_196_r {d : Nat} (hd : 24 ≤ d) {w : eW} (hT : e_Has kTy w) (hO : 0 ≤ w 0 13 ∧ w 0 13 ≤ 1) {a : Int} (g_a : (-2147483648) ≤ a ∧ a ≤ 2147483647) {b : Int} (g_b : (-2147483648) ≤ b ∧ b ≤ 2147483647) {c : Int} (g_c : (-2147483648) ≤ c ∧ c ≤ 2147483647) : e_Ok 20 elay kcode eI d 196 (0, [(0, (1, 0)), (1, (0, a)), (2, (0, b)), (3, (0, c))], [], w) (fun r w' => ∃ z : Int, r = [(0, z)] ∧ e_Has kTy w' ∧ (w' = w ∨ (w 0 13 = 0 ∧ e_fr (kBr a b) w w' ∧ (0 ≤ a ∧ a < w 0 11) ∧ (0 ≤ b ∧ b < w (17 * a + 86) 8)))) := by
  obtain ⟨d, rfl⟩ : ∃ e, d = e + 1 := ⟨d - 1, by omega⟩
  have hw0 := e_Has.get hT (c := 0) (k := 11) (lo := 0) (hi := 4) (kt_o rfl) (by decide)
  have hb0 := e_Has.get hT (c := 19) (k := 0) (lo := 0) (hi := 4) (kt_o rfl) (by decide)
  have hz0 := e_Has.get hT (c := 250) (k := 1) (lo := 0) (hi := 8) (kt_o rfl) (by decide)
  refine e_Ok.ps3 (x := (0, b)) (y := (0, a)) (z := (1, 0)) (q := 3) 3 rfl ?_
  refine e_Ok.callV rfl (e_dq hd rfl) rfl rfl rfl rfl (c_247 (e_dq hd rfl) hT (by omega) (by omega)) (fun r1 w2 h3 => ?_)
  obtain ⟨z4, rfl, rfl, q5⟩ := h3
  obtain ⟨rfl, q5⟩ | ⟨rfl, q5⟩ := q5
  · refine e_Ok.nrm (q := 6) (st' := [(0, 1)]) rfl rfl ?_
    refine e_Ok.if1 rfl (fun h6 => ?_) (fun h6 => ?_)
    · replace h6 : (1 : Int) = 0 := h6
      exfalso; omega
    · replace h6 : (1 : Int) ≠ 0 := (show ¬ ((1 : Int) = 0) from h6)
      have hjn := kn_joints hT (a := a) (by omega)
      refine e_Ok.ps3 (x := (0, 800)) (y := (0, 0)) (z := (0, c)) (q := 14) 3 rfl ?_
      refine e_Ok.callS rfl (e_dq hd rfl) rfl rfl (c_242 (by omega) (by omega) (by omega)) (fun r7 w8 h9 => ?_)
      obtain ⟨z10, rfl, rfl, q11⟩ := h9
      obtain ⟨rfl, q11⟩ | ⟨rfl, q11⟩ := q11
      · refine e_Ok.nrm (q := 17) (st' := [(0, 1)]) rfl rfl ?_
        refine e_Ok.if1 rfl (fun h12 => ?_) (fun h12 => ?_)
        · replace h12 : (1 : Int) ≠ 0 := h12
          refine e_Ok.ps1 (x := (1, 0)) (q := 23) 1 rfl ?_
          refine e_Ok.getf (z := w 0 13) rfl (el_o rfl) rfl rfl rfl (by omega) ?_
          refine e_Ok.if1 rfl (fun h13 => ?_) (fun h13 => ?_)
          · replace h13 : (w 0 13 : Int) = 0 := h13
            refine e_Ok.ps1 (x := (1, 0)) (q := 33) 1 rfl ?_
            refine e_Ok.getr (z := 9) rfl (el_o rfl) rfl rfl (e_Has.eq hT (kt_o rfl)) ⟨by decide, by decide⟩ ?_
            refine e_Ok.ps1 (x := (0, a)) (q := 37) 1 rfl ?_
            refine e_Ok.aald (z := 17 * a + 86) rfl (el_o rfl) rfl (by omega) (Eq.trans (e_Has.eq hT (k9 (by omega))) (by omega)) (by omega) ?_
            refine e_Ok.getr (z := 17 * a + 87) rfl (lA0 (a := a) (by omega) (by omega)) rfl rfl (Eq.trans (e_Has.eq hT (kA_0 (a := a) (by omega) (by omega))) (by omega)) (by omega) ?_
            refine e_Ok.ps1 (x := (0, b)) (q := 42) 1 rfl ?_
            refine e_Ok.aald (z := 17 * a + b + 97) rfl (lA1 (a := a) (by omega) (by omega)) rfl (by omega) (Eq.trans (e_Has.eq hT (kA87 (a := a) (by omega) (by omega) (by omega))) (by omega)) (by omega) ?_
            have h14 := (e_Has.get hT (c := 17 * a + b + 97) (k := 4) (lo := (-2147483648)) (hi := 2147483647) (kJ_4 (a := a) (j := b) (by omega) (by omega) (by omega)) (by decide))
            refine e_Ok.getf (z := w (17 * a + b + 97) 4) rfl (lJ (a := a) (j := b) (by omega) (by omega) (by omega)) rfl rfl rfl (e_bq h14 (by decide) (by decide)) ?_
            refine e_Ok.run (t' := (49, [(4, (0, w (17 * a + b + 97) 4)), (0, (1, 0)), (1, (0, a)), (2, (0, b)), (3, (0, c))], [(1, 0)], w)) 2 rfl ?_
            refine e_Ok.getr (z := 9) rfl (el_o rfl) rfl rfl (e_Has.eq hT (kt_o rfl)) ⟨by decide, by decide⟩ ?_
            refine e_Ok.ps1 (x := (0, a)) (q := 53) 1 rfl ?_
            refine e_Ok.aald (z := 17 * a + 86) rfl (el_o rfl) rfl (by omega) (Eq.trans (e_Has.eq hT (k9 (by omega))) (by omega)) (by omega) ?_
            refine e_Ok.getr (z := 17 * a + 87) rfl (lA0 (a := a) (by omega) (by omega)) rfl rfl (Eq.trans (e_Has.eq hT (kA_0 (a := a) (by omega) (by omega))) (by omega)) (by omega) ?_
            refine e_Ok.ps1 (x := (0, b)) (q := 58) 1 rfl ?_
            refine e_Ok.aald (z := 17 * a + b + 97) rfl (lA1 (a := a) (by omega) (by omega)) rfl (by omega) (Eq.trans (e_Has.eq hT (kA87 (a := a) (by omega) (by omega) (by omega))) (by omega)) (by omega) ?_
            refine e_Ok.ps1 (x := (0, c)) (q := 60) 1 rfl ?_
            refine e_Ok.putf rfl (lJ (a := a) (j := b) (by omega) (by omega) (by omega)) rfl rfl ?_
            generalize hw15 : e_up w (17 * a + b + 97) 4 c = w15
            have hT17 : e_Has kTy w15 := e_Has.upr hT hw15 (kJ_4 (a := a) (j := b) (by omega) (by omega) (by omega)) (by omega)
            refine e_Ok.ps1 (x := (0, w (17 * a + b + 97) 4)) (q := 65) 1 rfl ?_
            refine e_Ok.rets rfl rfl ?_
            exact ⟨_, rfl, hT17, Or.inr ⟨by omega, (show e_fr (kBr a b) w w15 from e_fr.up (e_fr.refl w) hw15 (by first | exact ⟨(by omega), rfl⟩ | (unfold kBr; omega))), (show (0 ≤ a ∧ a < w 0 11) ∧ (0 ≤ b ∧ b < w (17 * a + 86) 8) from by omega)⟩⟩
          · replace h13 : (w 0 13 : Int) ≠ 0 := (show ¬ ((w 0 13 : Int) = 0) from h13)
            refine e_Ok.ps1 (x := (0, (-2))) (q := 31) 1 rfl ?_
            refine e_Ok.rets rfl rfl ?_
            exact ⟨_, rfl, hT, Or.inl rfl⟩
        · replace h12 : (1 : Int) = 0 := Classical.not_not.mp (show ¬ ((1 : Int) ≠ 0) from h12)
          exfalso; omega
      · refine e_Ok.nrm (q := 17) (st' := [(0, 0)]) rfl rfl ?_
        refine e_Ok.if1 rfl (fun h18 => ?_) (fun h18 => ?_)
        · replace h18 : (0 : Int) ≠ 0 := h18
          exfalso; omega
        · replace h18 : (0 : Int) = 0 := Classical.not_not.mp (show ¬ ((0 : Int) ≠ 0) from h18)
          refine e_Ok.ps1 (x := (0, (-1))) (q := 21) 1 rfl ?_
          refine e_Ok.rets rfl rfl ?_
          exact ⟨_, rfl, hT, Or.inl rfl⟩
  · refine e_Ok.nrm (q := 6) (st' := [(0, 0)]) rfl rfl ?_
    refine e_Ok.if1 rfl (fun h19 => ?_) (fun h19 => ?_)
    · replace h19 : (0 : Int) = 0 := h19
      refine e_Ok.ps1 (x := (0, (-1))) (q := 21) 1 rfl ?_
      refine e_Ok.rets rfl rfl ?_
      exact ⟨_, rfl, hT, Or.inl rfl⟩
    · replace h19 : (0 : Int) ≠ 0 := (show ¬ ((0 : Int) = 0) from h19)
      exfalso; omega
theorem c_199_r {d : Nat} (hd : 24 ≤ d) {w : eW} (hT : e_Has kTy w) (hO : 0 ≤ w 0 13 ∧ w 0 13 ≤ 1) {a : Int} (g_a : (-2147483648) ≤ a ∧ a ≤ 2147483647) {b : Int} (g_b : (-2147483648) ≤ b ∧ b ≤ 2147483647) {c : Int} (g_c : (-2147483648) ≤ c ∧ c ≤ 2147483647) : e_Ok 20 elay kcode eI d 199 (0, [(0, (1, 0)), (1, (0, a)), (2, (0, b)), (3, (0, c))], [], w) (fun r w' => ∃ z : Int, r = [(0, z)] ∧ e_Has kTy w' ∧ (w' = w ∨ (w 0 13 = 0 ∧ e_fr (kSd a) w w' ∧ (0 ≤ a ∧ a < w 0 11)))) := by
  obtain ⟨d, rfl⟩ : ∃ e, d = e + 1 := ⟨d - 1, by omega⟩
  have hw0 := e_Has.get hT (c := 0) (k := 11) (lo := 0) (hi := 4) (kt_o rfl) (by decide)
  have hb0 := e_Has.get hT (c := 19) (k := 0) (lo := 0) (hi := 4) (kt_o rfl) (by decide)
  have hz0 := e_Has.get hT (c := 250) (k := 1) (lo := 0) (hi := 8) (kt_o rfl) (by decide)
  have hs0 := e_Has.get hT (c := 250) (k := 0) (lo := 0) (hi := 16) (kt_o rfl) (by decide)
  refine e_Ok.ps2 (x := (0, a)) (y := (1, 0)) (q := 2) 2 rfl ?_
  refine e_Ok.callV rfl (e_dq hd rfl) rfl rfl rfl rfl (c_246 (e_dq hd rfl) hT (by omega)) (fun r1 w2 h3 => ?_)
  obtain ⟨z4, rfl, rfl, q5⟩ := h3
  obtain ⟨rfl, q5⟩ | ⟨rfl, q5⟩ := q5
  · refine e_Ok.nrm (q := 5) (st' := [(0, 1)]) rfl rfl ?_
    refine e_Ok.if1 rfl (fun h6 => ?_) (fun h6 => ?_)
    · replace h6 : (1 : Int) = 0 := h6
      exfalso; omega
    · replace h6 : (1 : Int) ≠ 0 := (show ¬ ((1 : Int) = 0) from h6)
      refine e_Ok.ps3 (x := (0, 6)) (y := (0, 0)) (z := (0, b)) (q := 12) 3 rfl ?_
      refine e_Ok.callS rfl (e_dq hd rfl) rfl rfl (c_242 (by omega) (by omega) (by omega)) (fun r7 w8 h9 => ?_)
      obtain ⟨z10, rfl, rfl, q11⟩ := h9
      obtain ⟨rfl, q11⟩ | ⟨rfl, q11⟩ := q11
      · refine e_Ok.nrm (q := 15) (st' := [(0, 1)]) rfl rfl ?_
        refine e_Ok.if1 rfl (fun h12 => ?_) (fun h12 => ?_)
        · replace h12 : (1 : Int) ≠ 0 := h12
          refine e_Ok.ps3 (x := (1, 0)) (y := (0, 0)) (z := (0, c)) (q := 23) 3 rfl ?_
          refine e_Ok.getr (z := 250) rfl (el_o rfl) rfl rfl (e_Has.eq hT (kt_o rfl)) ⟨by decide, by decide⟩ ?_
          have h13 := (e_Has.get hT (c := 250) (k := 0) (lo := 0) (hi := 16) (kt_o rfl) (by decide))
          refine e_Ok.getf (z := w 250 0) rfl (el_o rfl) rfl rfl rfl (e_bq h13 (by decide) (by decide)) ?_
          refine e_Ok.ps1 (x := (0, 1)) (q := 30) 1 rfl ?_
          refine e_Ok.sub' (z := w 250 0 - 1) rfl rfl (by omega) ?_
          refine e_Ok.callS rfl (e_dq hd rfl) rfl rfl (c_242 (by omega) (by omega) (by omega)) (fun r14 w15 h16 => ?_)
          obtain ⟨z17, rfl, rfl, q18⟩ := h16
          obtain ⟨rfl, q18⟩ | ⟨rfl, q18⟩ := q18
          · refine e_Ok.nrm (q := 34) (st' := [(0, 1)]) rfl rfl ?_
            refine e_Ok.if1 rfl (fun h19 => ?_) (fun h19 => ?_)
            · replace h19 : (1 : Int) ≠ 0 := h19
              refine e_Ok.ps1 (x := (1, 0)) (q := 40) 1 rfl ?_
              refine e_Ok.getf (z := w 0 13) rfl (el_o rfl) rfl rfl rfl (by omega) ?_
              refine e_Ok.if1 rfl (fun h20 => ?_) (fun h20 => ?_)
              · replace h20 : (w 0 13 : Int) = 0 := h20
                refine e_Ok.ps1 (x := (1, 0)) (q := 50) 1 rfl ?_
                refine e_Ok.getr (z := 9) rfl (el_o rfl) rfl rfl (e_Has.eq hT (kt_o rfl)) ⟨by decide, by decide⟩ ?_
                refine e_Ok.ps1 (x := (0, a)) (q := 54) 1 rfl ?_
                refine e_Ok.aald (z := 17 * a + 86) rfl (el_o rfl) rfl (by omega) (Eq.trans (e_Has.eq hT (k9 (by omega))) (by omega)) (by omega) ?_
                refine e_Ok.ps2 (x := (0, c)) (y := (0, b)) (q := 57) 2 rfl ?_
                refine e_Ok.callV rfl (e_dq hd rfl) rfl (lA0 (a := a) (by omega) (by omega)) rfl rfl (c_6 (a := a) hT (by omega) (by omega) (by omega)) (fun r21 w22 h23 => ?_)
                obtain ⟨z25, rfl, rfl, q24r⟩ := h23
                refine e_Ok.nrm (q := 60) (st' := [(0, z25)]) rfl rfl ?_
                refine e_Ok.if1 rfl (fun h26 => ?_) (fun h26 => ?_)
                · replace h26 : (z25 : Int) = 0 := h26
                  refine e_Ok.ps1 (x := (1, 0)) (q := 66) 1 rfl ?_
                  refine e_Ok.getr (z := 9) rfl (el_o rfl) rfl rfl (e_Has.eq hT (kt_o rfl)) ⟨by decide, by decide⟩ ?_
                  refine e_Ok.ps1 (x := (0, a)) (q := 70) 1 rfl ?_
                  refine e_Ok.aald (z := 17 * a + 86) rfl (el_o rfl) rfl (by omega) (Eq.trans (e_Has.eq hT (k9 (by omega))) (by omega)) (by omega) ?_
                  refine e_Ok.getr (z := 17 * a + 92) rfl (lA0 (a := a) (by omega) (by omega)) rfl rfl (Eq.trans (e_Has.eq hT (kA_5 (a := a) (by omega) (by omega))) (by omega)) (by omega) ?_
                  refine e_Ok.ps3 (x := (0, b)) (y := (1, 17 * a + 92)) (z := (0, b)) (q := 76) 2 rfl ?_
                  have h27 := (e_Has.get hT (c := 17 * a + 92) (k := b) (lo := (-2147483648)) (hi := 2147483647) (kA92 (a := a) _ (by omega) (by omega)) (by decide))
                  refine e_Ok.ald (z := w (17 * a + 92) b) rfl (lA6 (a := a) (by omega) (by omega)) rfl (by omega) rfl (e_bq h27 (by decide) (by decide)) ?_
                  refine e_Ok.ps2 (x := (0, c)) (y := (0, 1)) (q := 79) 2 rfl ?_
                  refine e_Ok.any rfl (eB_any _ _) (fun z28 z28a z28b => ?_)
                  refine e_Ok.any rfl (eB_any _ _) (fun z29 z29a z29b => ?_)
                  refine e_Ok.ast rfl (lA6 (a := a) (by omega) (by omega)) rfl rfl (by omega) ?_
                  generalize hw30 : e_up w (17 * a + 92) b z29 = w30
                  have hT32 : e_Has kTy w30 := e_Has.upr hT hw30 (kA92 (a := a) _ (by omega) (by omega)) (by omega)
                  refine e_Ok.ps1 (x := (0, 1)) (q := 83) 1 rfl ?_
                  refine e_Ok.rets rfl rfl ?_
                  exact ⟨_, rfl, hT32, Or.inr ⟨by omega, (show e_fr (kSd a) w w30 from e_fr.up (e_fr.refl w) hw30 (by first | exact (by omega) | (unfold kSd; omega))), (show 0 ≤ a ∧ a < w 0 11 from by omega)⟩⟩
                · replace h26 : (z25 : Int) ≠ 0 := (show ¬ ((z25 : Int) = 0) from h26)
                  refine e_Ok.ps1 (x := (0, 0)) (q := 64) 1 rfl ?_
                  refine e_Ok.rets rfl rfl ?_
                  exact ⟨_, rfl, hT, Or.inl rfl⟩
              · replace h20 : (w 0 13 : Int) ≠ 0 := (show ¬ ((w 0 13 : Int) = 0) from h20)
                refine e_Ok.ps1 (x := (0, (-2))) (q := 48) 1 rfl ?_
                refine e_Ok.rets rfl rfl ?_
                exact ⟨_, rfl, hT, Or.inl rfl⟩
            · replace h19 : (1 : Int) = 0 := Classical.not_not.mp (show ¬ ((1 : Int) ≠ 0) from h19)
              exfalso; omega
          · refine e_Ok.nrm (q := 34) (st' := [(0, 0)]) rfl rfl ?_
            refine e_Ok.if1 rfl (fun h33 => ?_) (fun h33 => ?_)
            · replace h33 : (0 : Int) ≠ 0 := h33
              exfalso; omega
            · replace h33 : (0 : Int) = 0 := Classical.not_not.mp (show ¬ ((0 : Int) ≠ 0) from h33)
              refine e_Ok.ps1 (x := (0, (-1))) (q := 38) 1 rfl ?_
              refine e_Ok.rets rfl rfl ?_
              exact ⟨_, rfl, hT, Or.inl rfl⟩
        · replace h12 : (1 : Int) = 0 := Classical.not_not.mp (show ¬ ((1 : Int) ≠ 0) from h12)
          exfalso; omega
      · refine e_Ok.nrm (q := 15) (st' := [(0, 0)]) rfl rfl ?_
        refine e_Ok.if1 rfl (fun h34 => ?_) (fun h34 => ?_)
        · replace h34 : (0 : Int) ≠ 0 := h34
          exfalso; omega
        · replace h34 : (0 : Int) = 0 := Classical.not_not.mp (show ¬ ((0 : Int) ≠ 0) from h34)
          refine e_Ok.ps1 (x := (0, (-1))) (q := 19) 1 rfl ?_
          refine e_Ok.rets rfl rfl ?_
          exact ⟨_, rfl, hT, Or.inl rfl⟩
  · refine e_Ok.nrm (q := 5) (st' := [(0, 0)]) rfl rfl ?_
    refine e_Ok.if1 rfl (fun h35 => ?_) (fun h35 => ?_)
    · replace h35 : (0 : Int) = 0 := h35
      refine e_Ok.ps1 (x := (0, (-1))) (q := 19) 1 rfl ?_
      refine e_Ok.rets rfl rfl ?_
      exact ⟨_, rfl, hT, Or.inl rfl⟩
    · replace h35 : (0 : Int) ≠ 0 := (show ¬ ((0 : Int) = 0) from h35)
      exfalso; omega
end
end
-- part dv
section
noncomputable section
/-! the class: what is kept from call to call -/
def kAl (w : eW) : Prop := ∀ c k, 0 ≤ c → c ≤ 274 → kn1 (w c k)
def cdD (w : eW) : Prop := isCd (w 1 3) ∧ (∀ a, 0 ≤ a → a ≤ 3 → isCd (w (17 * a + 86) 7) ∧ w (17 * a + 86) 7 ≠ w 1 3) ∧ ∀ a b, 0 ≤ a → a ≤ 3 → 0 ≤ b → b ≤ 3 → a ≠ b → w (17 * a + 86) 7 ≠ w (17 * b + 86) 7
def kRel (w : eW) : Prop := e_Has kTy w ∧ e_Has kRy w ∧ ((0 ≤ w 0 13 ∧ w 0 13 ≤ 1) ∧ (0 ≤ w 0 12 ∧ w 0 12 ≤ 2000) ∧ w 0 14 = 1) ∧ cdD w ∧ (w 0 13 = 0 → kBld w) ∧ (w 0 13 = 1 → ∃ OP OD CL S, kB w OP OD CL S)
/-- of every u that knows more -/
def kRelF (w : eW) : Prop := ∀ u, e_rf w u → kAl u → kRel u
/-- open, bytes on the tape, arms are as they were -/
def km3 (w w' : eW) : Prop := w' 0 13 = w 0 13 ∧ w' 1 0 = w 1 0 ∧ w' 0 11 = w 0 11
section DV
variable {w w' u : eW} {a : Int}
theorem cdD.eq (h3 : w' 1 3 = w 1 3) (h7 : ∀ a, 0 ≤ a → a ≤ 3 → w' (17 * a + 86) 7 = w (17 * a + 86) 7) (q : cdD w) : cdD w' := by
  obtain ⟨q1, q2, q3⟩ := q
  exact ⟨by rw [h3]; exact q1, fun a g1 g2 => by rw [h7 a g1 g2, h3]; exact q2 a g1 g2, fun a b g1 g2 g3 g4 g5 => by rw [h7 a g1 g2, h7 b g3 g4]; exact q3 a b g1 g2 g3 g4 g5⟩
theorem bC.cdD (q : bC w) : cdD w := ⟨q.1, fun a g1 g2 => ⟨q.cd g1 g2, (q.2.1 a g1 g2).2⟩, q.2.2⟩
theorem kRy_bd {c k : Int} (h : (kRy c k).1 ≤ (kRy c k).2) : -2147483648 ≤ (kRy c k).1 ∧ (kRy c k).2 ≤ 2147483647 := by
  by_cases g : c = 1
  · subst g
    by_cases gk : k < 0
    · have e : kRy 1 k = (1, 0) := by unfold kRy; rw [if_pos rfl, if_pos gk]
      rw [e]; exact ⟨by decide, by decide⟩
    · obtain ⟨n, rfl⟩ : ∃ n : Nat, k = n := ⟨k.toNat, by omega⟩
      have key : ∀ n : Nat, n < 17 → -2147483648 ≤ (kRy 1 (n : Int)).1 ∧ (kRy 1 (n : Int)).2 ≤ 2147483647 := by decide +kernel
      by_cases g2 : n < 17
      · exact key n g2
      · obtain ⟨j, rfl⟩ : ∃ j, n = j + 17 := ⟨n - 17, by omega⟩
        exact absurd (show (1 : Int) ≤ 0 from h) (by decide)
  · by_cases g2 : 5 ≤ c ∧ c ≤ 7
    · have e : kRy c k = (-2147483648, 2147483647) := by unfold kRy; rw [if_neg g, if_pos g2]
      rw [e]; exact ⟨Int.le_refl _, Int.le_refl _⟩
    · have e : kRy c k = (1, 0) := by unfold kRy; rw [if_neg g, if_neg g2]
      rw [e]; exact ⟨by decide, by decide⟩
theorem e_Has.ryf (h : e_Has kRy w) (hw : e_rf w u) : e_Has kRy u := fun c k hl => by
  have q := h c k hl
  have b := kRy_bd hl
  rw [(kn1.ty q b.1 b.2).rf hw]
  exact q
theorem isCd.kn {x : Int} (h : isCd x) : kn1 x := by unfold isCd at h; unfold kn1; omega
theorem cdD.rf (q : cdD w) (hw : e_rf w u) : cdD u := q.eq (q.1.kn.rf hw) (fun a g1 g2 => (q.2.1 a g1 g2).1.kn.rf hw)
theorem bA1.rf (ga : 0 ≤ a ∧ a ≤ 3) (hT : e_Has kTy w) (hw : e_rf w u) (q : bA1 w a) : bA1 u a := by
  obtain ⟨q1, q2, q3, q4⟩ := q
  have hn := kn_joints hT ga
  have e8 := kq_A (k := 8) hT hw ga (by omega)
  refine ⟨by rw [q1.1.rf hw, q1.2.rf hw]; exact q1, (kq_A (k := 17) hT hw ga (by omega)).trans q2, q3.rf ga hT hw, fun j g1 g2 => ?_⟩
  rw [e8] at g2
  have z := q4 j g1 g2
  unfold jC at z ⊢
  rw [kq_J (k := 1) hT hw ga (by omega) (by omega), kq_J (k := 2) hT hw ga (by omega) (by omega), kq_J (k := 5) hT hw ga (by omega) (by omega), kq_J (k := 6) hT hw ga (by omega) (by omega)]
  exact z
theorem codK.rf {cd : Int} (hc : isCd cd) (hT : e_Has kTy w) (hw : e_rf w u) (q : codK w cd) : codK u cd := by
  have e0 : u cd 0 = w cd 0 := e_Has.kq hT hw (kD_0 hc) (by decide) (by decide) (by decide)
  have e1 : u cd 1 = w cd 1 := e_Has.kq hT hw (kD_1 hc) (by decide) (by decide) (by decide)
  have e2 : ∀ n, u (cd + 1) n = w (cd + 1) n := fun n => e_Has.kq hT hw (kD1 n rfl hc) (by decide) (by decide) (by decide)
  have e3 : ∀ n, u (cd + 2) n = w (cd + 2) n := fun n => e_Has.kq hT hw (kD2 n rfl hc) (by decide) (by decide) (by decide)
  obtain ⟨op, od, cl, ⟨a1, a2⟩, b, ⟨c1, c2⟩⟩ := q
  exact ⟨op, od, cl, ⟨a1, fun p => by rw [e0, e3 p]; exact a2 p⟩, b, fun n g1 g2 => by rw [e2 n]; rw [e1] at g2; exact c1 n g1 g2, fun p h => by rw [e1]; exact c2 p h⟩
theorem bC.rf (hT : e_Has kTy w) (hw : e_rf w u) (q : bC w) : bC u := by
  have d := q.cdD
  have d' := d.rf hw
  refine ⟨d'.1, fun a g1 g2 => ⟨?_, (d'.2.1 a g1 g2).2⟩, d'.2.2⟩
  rw [(d.2.1 a g1 g2).1.kn.rf hw]
  exact (q.2.1 a g1 g2).1.rf (d.2.1 a g1 g2).1 hT hw
theorem bP.rf (hT : e_Has kTy w) (hw : e_rf w u) (q : bP w) : bP u := q.eq hT (fun c k g => by
  rcases g with rfl | rfl
  · exact e_Has.kq hT hw (c := 15) (k := k) (lo := -1) (hi := 63) rfl (by decide) (by decide) (by decide)
  · exact e_Has.kq hT hw (c := 18) (k := k) (lo := 0) (hi := 63) rfl (by decide) (by decide) (by decide))
theorem fP.rf {p : Int} (e0 : u 19 0 = w 19 0) (hw : e_rf w u) (q : fP w p) : fP u p := by
  obtain ⟨q1, q2, q3⟩ := q
  have e6 : u 36 p = w 36 p := (kn1.of q1 (by decide) (by decide)).rf hw
  unfold fP
  rw [e6, e0]
  exact ⟨q1, fun h => ⟨(q2 h).1, by rw [(q2 h).2.rf hw]; exact (q2 h).2⟩, fun h => ⟨by rw [(q3 h).1.rf hw]; exact (q3 h).1, by rw [(q3 h).2.rf hw]; exact (q3 h).2⟩⟩
theorem fKn.rf {n : Int} (hn : n ≤ 32) (e0 : u 19 0 = w 19 0) (hw : e_rf w u) (q : fKn w n) : fKn u n := by
  obtain ⟨q1, q2⟩ := q
  refine ⟨fun b g1 g2 => ?_, fun p g1 g2 => (q2 p g1 g2).rf e0 hw⟩
  rw [e0] at g2
  have z := q1 b g1 g2
  have e5 : u 35 b = w 35 b := (show kn1 (w 35 b) from by unfold kn1; omega).rf hw
  rw [e5]
  refine ⟨z.1, fun i k1 k2 => ?_⟩
  have y := z.2 i k1 k2
  have e1 : u (b + 31) i = w (b + 31) i := (show kn1 (w (b + 31) i) from by unfold kn1; omega).rf hw
  have p1 := (q2 _ y.1.1 y.1.2).1
  rw [e1, (kn1.of p1 (by decide) (by decide)).rf hw]
  exact y
theorem bF.rf (hT : e_Has kTy w) (hw : e_rf w u) (q : bF w) : bF u := by
  have hm := e_Has.get hT (c := 19) (k := 1) (lo := 0) (hi := 32) (kt_o rfl) (by decide)
  have e0 : u 19 0 = w 19 0 := e_Has.kq hT hw (c := 19) (k := 0) (lo := 0) (hi := 4) rfl (by decide) (by decide) (by decide)
  have e1 : u 19 1 = w 19 1 := e_Has.kq hT hw (c := 19) (k := 1) (lo := 0) (hi := 32) rfl (by decide) (by decide) (by decide)
  refine ⟨fun p g1 g2 g3 => ?_, by rw [e1]; exact q.2.rf hm.2 e0 hw⟩
  rw [e1] at g2
  have e2 : u (p + 42) 0 = w (p + 42) 0 := e_Has.kq hT hw (kG_0 (p := p) rfl (by omega)) (by decide) (by decide) (by decide)
  rw [e2] at g3 ⊢
  rw [e0]
  exact q.1 p g1 g2 g3
theorem kBld.rf (hT : e_Has kTy w) (hw : e_rf w u) (q : kBld w) : kBld u := by
  obtain ⟨q1, q2, q3, q4, q5⟩ := q
  exact ⟨fun a g1 g2 => (q1 a g1 g2).rf ⟨g1, g2⟩ hT hw, q2.rf hT hw, q3.rf hT hw, q4.rf hT hw, ((show kn1 (w 262 0) from by rw [q5]; unfold kn1; omega).rf hw).trans q5⟩
theorem kRel.rf (q : kRel w) (hw : e_rf w u) : kRel u := by
  obtain ⟨q1, q2, ⟨q3, q4, q5⟩, q6, q7, q8⟩ := q
  have e13 : u 0 13 = w 0 13 := (kn1.of q3 (by decide) (by decide)).rf hw
  have e12 : u 0 12 = w 0 12 := (kn1.of q4 (by decide) (by decide)).rf hw
  have e14 : u 0 14 = w 0 14 := (show kn1 (w 0 14) from by rw [q5]; unfold kn1; omega).rf hw
  refine ⟨q1.krf hw, q2.ryf hw, ⟨by omega, by omega, by omega⟩, q6.rf hw, fun h => (q7 (by omega)).rf q1 hw, fun h => ?_⟩
  obtain ⟨OP, OD, CL, S, k⟩ := q8 (by omega)
  exact ⟨OP, OD, CL, S, k.rf hw⟩
theorem kRel.F (q : kRel w) : kRelF w := fun _ hw _ => q.rf hw
theorem kRel.lk (q : kRel w) (hAll : kAl w) : lkK w := by
  obtain ⟨q1, q2, ⟨q3, q4, q5⟩, q6, q7, q8⟩ := q
  by_cases h : w 0 13 = 0
  · exact (q7 h).lk q1 hAll
  · obtain ⟨OP, OD, CL, S, k⟩ := q8 (by omega)
    obtain ⟨hh, -, hI⟩ := k.live
    exact ⟨q1, hAll, hI.cd, fun a g1 g2 => ((hI.2.1 a g1 g2).2.2.2.2.2).1, fun a g1 g2 => (hI.2.1 a g1 g2).1, hI.2.2.1⟩
theorem kRel.p62 (q : kRel w) : 0 ≤ w 262 0 ∧ w 262 0 ≤ 60 := by
  obtain ⟨q1, q2, ⟨q3, q4, q5⟩, q6, q7, q8⟩ := q
  by_cases h : w 0 13 = 0
  · have := (q7 h).2.2.2.2; omega
  · obtain ⟨OP, OD, CL, S, k⟩ := q8 (by omega)
    exact k.1.2
theorem kRel.ak (q : kRel w) : ∀ a, 0 ≤ a → a ≤ 3 → aK w a := by
  obtain ⟨q1, q2, ⟨q3, q4, q5⟩, q6, q7, q8⟩ := q
  intro a g1 g2
  by_cases h : w 0 13 = 0
  · exact ((q7 h).1 a g1 g2).2.2.1
  · obtain ⟨OP, OD, CL, S, k⟩ := q8 (by omega)
    obtain ⟨hh, -, hI⟩ := k.live
    exact (hI.2.1 a g1 g2).1
theorem kRel.hC (q : kRel w) : ∀ a, 0 ≤ a → a ≤ 3 → isCd (w (17 * a + 86) 7) := fun a g1 g2 => (q.2.2.2.1.2.1 a g1 g2).1
theorem km3.refl (w : eW) : km3 w w := ⟨rfl, rfl, rfl⟩
theorem nw_lo {c k : Int} (q : kNw c k) : c ≠ 0 ∧ c ≠ 1 ∧ (c < 5 ∨ 7 < c) := by
  unfold kNw at q
  omega
theorem kRel.opn {S : Int → Int → Prop} (q : kRel w) (hT : e_Has kTy w') (h1 : w 0 13 = 1) (f : e_fr S w w') (hS : ∀ c k, S c k → (c ≠ 1 ∧ (c < 5 ∨ 7 < c)) ∧ ¬ (c = 0 ∧ (k = 11 ∨ k = 13))) (h7 : ∀ a, 0 ≤ a → a ≤ 3 → ¬ S (17 * a + 86) 7) (h14 : w' 0 14 = 1) (hB : ∃ OP OD CL S, kB w' OP OD CL S) : kRelF w' ∧ km3 w w' := by
  obtain ⟨q1, q2, ⟨q3, q4, q5⟩, q6, q7, q8⟩ := q
  have e13 : w' 0 13 = w 0 13 := f _ _ (fun g => (hS _ _ g).2 ⟨rfl, Or.inr rfl⟩)
  have e11 : w' 0 11 = w 0 11 := f _ _ (fun g => (hS _ _ g).2 ⟨rfl, Or.inl rfl⟩)
  have e10 : w' 1 0 = w 1 0 := f _ _ (fun g => (hS _ _ g).1.1 rfl)
  have h12 : 0 ≤ w' 0 12 ∧ w' 0 12 ≤ 2000 := by
    obtain ⟨OP, OD, CL, S', k⟩ := hB
    exact k.1.1
  exact ⟨kRel.F ⟨hT, H_fr f (fun c k g => (hS c k g).1) q2, ⟨by omega, h12, h14⟩, q6.eq (f _ _ (fun g => (hS _ _ g).1.1 rfl)) (fun a g1 g2 => f _ _ (h7 a g1 g2)), fun h => by omega, fun _ => hB⟩, e13, e10, e11⟩
theorem kRel.bl {S : Int → Int → Prop} (q : kRel w) (hT : e_Has kTy w') (h0 : w 0 13 = 0) (f : e_fr S w w') (hS : ∀ c k, S c k → (c ≠ 1 ∧ (c < 5 ∨ 7 < c)) ∧ ¬ (c = 0 ∧ 12 ≤ k)) (hb : kBld w') : kRelF w' ∧ w' 0 13 = w 0 13 ∧ w' 1 0 = w 1 0 ∧ (¬ S 0 11 → w' 0 11 = w 0 11) := by
  obtain ⟨q1, q2, ⟨q3, q4, q5⟩, q6, q7, q8⟩ := q
  have e : ∀ k, 12 ≤ k → w' 0 k = w 0 k := fun k g => f _ _ (fun g2 => (hS _ _ g2).2 ⟨rfl, g⟩)
  have e10 : w' 1 0 = w 1 0 := f _ _ (fun g => (hS _ _ g).1.1 rfl)
  have e13 := e 13 (by omega)
  exact ⟨kRel.F ⟨hT, H_fr f (fun c k g => (hS c k g).1) q2, ⟨by omega, by rw [e 12 (by omega)]; exact q4, (e 14 (by omega)).trans q5⟩, hb.2.1.cdD, fun _ => hb, fun h => by omega⟩, e13, e10, fun g => f _ _ g⟩
theorem opK.rel (q : kRel w) (hT : e_Has kTy w') (h : opK w w') : kRelF w' ∧ km3 w w' := by
  rcases h with rfl | ⟨h1, f, hB⟩
  · exact ⟨q.F, km3.refl _⟩
  · refine q.opn hT h1 f (fun c k g => ?_) (fun a g1 g2 g => ?_) ((f _ _ (fun g => ?_)).trans q.2.2.1.2.2) hB
    · rcases g with g | g | g
      · have := nw_lo g; exact ⟨this.2, fun z => this.1 z.1⟩
      · exact ⟨by omega, by omega⟩
      · exact ⟨by omega, by omega⟩
    · rcases g with g | g | g
      · exact nw_a ⟨g1, g2⟩ (by omega) g
      · omega
      · omega
    · rcases g with g | g | g
      · exact (nw_lo g).1 rfl
      · omega
      · omega
theorem opB.rel (q : kRel w) (hT : e_Has kTy w') (h : opB w w') : kRelF w' ∧ km3 w w' := by
  rcases h with rfl | ⟨h1, f, h14, hB⟩
  · exact ⟨q.F, km3.refl _⟩
  · refine q.opn hT h1 f (fun c k g => ?_) (fun a g1 g2 g => ?_) h14 hB
    · rcases g with g | g
      · have := nw_lo g; exact ⟨this.2, fun z => this.1 z.1⟩
      · exact ⟨by omega, by omega⟩
    · rcases g with g | g
      · exact nw_a ⟨g1, g2⟩ (by omega) g
      · omega
theorem opP.rel (q : kRel w) (hT : e_Has kTy w') (h : opP w w') : kRelF w' ∧ km3 w w' := by
  rcases h with rfl | ⟨h1, f, hB⟩
  · exact ⟨q.F, km3.refl _⟩
  · refine q.opn hT h1 f (fun c k g => ?_) (fun a g1 g2 g => ?_) ((f _ _ (fun g => ?_)).trans q.2.2.1.2.2) hB
    · rcases g with (g | g | g) | g
      · have := nw_lo g; exact ⟨this.2, fun z => this.1 z.1⟩
      · exact ⟨by omega, by omega⟩
      · exact ⟨by omega, by omega⟩
      · exact ⟨by omega, by omega⟩
    · rcases g with (g | g | g) | g
      · exact nw_a ⟨g1, g2⟩ (by omega) g
      · omega
      · omega
      · omega
    · rcases g with (g | g | g) | g
      · exact (nw_lo g).1 rfl
      · omega
      · omega
      · omega
theorem cl_lo {c k : Int} (q : kCL c k) : c ≠ 1 ∧ (c < 5 ∨ 7 < c) := by
  rcases q with q | q | q | q | q | q | q | q | q | q | q | q
  · exact (nw_lo q).2
  all_goals omega
/-- the tape alone has changed -/
theorem kRel.tp (q : kRel w) (f : e_fr kTp w w') (hT : e_Has kTy w') (h0 : 0 ≤ w' 1 0 ∧ w' 1 0 ≤ 4000) (ho : ∀ c k, e_out elay c k → w' c k = w c k) : kRelF w' := fun u hw hAl => by
  obtain ⟨q1, q2, ⟨q3, q4, q5⟩, q6, q7, q8⟩ := q
  have ft : ∀ c k, ¬ ((c = 1 ∧ k = 0) ∨ c = 5) → w' c k = w c k := f
  have e : ∀ k, w' 0 k = w 0 k := fun k => ft _ _ (by omega)
  have e13 := e 13
  have e14 := e 14
  have e12 := e 12
  have ku : ∀ c k, ¬ ((c = 1 ∧ k = 0) ∨ c = 5) → kn1 (w c k) → u c k = w c k := fun c k g h => by
    have z := ft c k g
    rw [← z]
    exact (show kn1 (w' c k) from by rw [z]; exact h).rf hw
  have d3 : u 1 3 = w 1 3 := ku _ _ (by omega) q6.1.kn
  have d7 : ∀ a, 0 ≤ a → a ≤ 3 → u (17 * a + 86) 7 = w (17 * a + 86) 7 := fun a g1 g2 => ku _ _ (by omega) (q6.2.1 a g1 g2).1.kn
  have u13 : u 0 13 = w 0 13 := ku _ _ (by omega) (kn1.of q3 (by decide) (by decide))
  have u12 : u 0 12 = w 0 12 := ku _ _ (by omega) (kn1.of q4 (by decide) (by decide))
  have u14 : u 0 14 = w 0 14 := ku _ _ (by omega) (by rw [q5]; unfold kn1; omega)
  have u10 : u 1 0 = w' 1 0 := (kn1.of h0 (by decide) (by decide)).rf hw
  refine ⟨hT.krf hw, fun c k hl => ?_, ⟨by omega, by omega, by omega⟩, q6.eq d3 d7, fun h => ?_, fun h => ?_⟩
  · have g := kRy_rg hl
    have b := kRy_bd hl
    by_cases g5 : c = 5
    · have e5 : kRy c k = (-2147483648, 2147483647) := by unfold kRy; rw [if_neg (by omega), if_pos (by omega)]
      rw [e5]
      exact hAl c k (by omega) (by omega)
    · by_cases g0 : c = 1 ∧ k = 0
      · obtain ⟨rfl, rfl⟩ := g0
        rw [u10]; exact h0
      · have z := q2 c k hl
        rw [ku c k (by omega) (kn1.ty z b.1 b.2)]
        exact z
  · exact ((q7 (by omega)).eq q1 (w' := w') (fun c k g => ft c k (by unfold dBa dBc dBp dBf at g; omega))).rf hT hw
  · obtain ⟨OP, OD, CL, S, k⟩ := q8 (by omega)
    have hf : e_fr kNh w w' := f.mono (fun c k g => by
      rcases g with g | g
      · exact Or.inr (Or.inr (Or.inr (Or.inr (Or.inl g.1))))
      · exact Or.inr (Or.inr (Or.inr (Or.inr (Or.inr ⟨by omega, by omega⟩)))))
    refine ⟨OP, OD, CL, S, kB.rf hw (k.keep (Kc.of hf q1 hT ho) e12 (by have z := ft 262 0 (by omega); have := k.1.2; omega) (fun c k g _ => ft c k (by unfold kYs at g; omega)) (fun k _ _ => ft _ _ (by omega)) (fun c k' g h => ?_) (fun a g1 g2 => ?_))⟩
    · have z : w' c k' = w c k' := ft c k' (fun g2 => g (by
        rcases g2 with ⟨rfl, rfl⟩ | rfl
        · exact Or.inl ⟨Or.inr (Or.inl rfl), (show (1 : Int) ≠ 0 from by decide)⟩
        · exact Or.inl ⟨Or.inr (Or.inr (Or.inl ⟨by omega, by omega⟩)), (show (1 : Int) ≠ 0 from by decide)⟩))
      rw [z]
      exact k.2.2.2.1 c k' g h
    · refine (k.2.1.2 a g1 g2).eq (ft _ _ (by omega)) (fun c k' g => ?_) (fun k' g => ⟨ft _ _ (by omega), ft _ _ (by omega)⟩)
      rcases g with g | ⟨j, hj, rfl, rfl⟩
      · exact Kq.of hf q1 hT c k' g
      · exact ft _ _ (by omega)
/-- the line that was looked at alone has changed -/
theorem kRel.tc (q : kRel w) (f : e_fr kTc w w') (hT : e_Has kTy w') (ho : ∀ c k, e_out elay c k → w' c k = w c k) : kRelF w' := by
  obtain ⟨q1, q2, ⟨q3, q4, q5⟩, q6, q7, q8⟩ := q
  have ft : ∀ c k, ¬ (c = 250 ∧ 13 ≤ k ∧ k ≤ 16) → w' c k = w c k := f
  have e13 : w' 0 13 = w 0 13 := ft _ _ (by omega)
  have e12 : w' 0 12 = w 0 12 := ft _ _ (by omega)
  have e14 : w' 0 14 = w 0 14 := ft _ _ (by omega)
  have hN : ∀ c k, kTc c k → kNw c k := fun c k g => by unfold kTc at g; unfold kNw; omega
  have hf : e_fr kNh w w' := f.mono (fun c k g => Or.inl (hN c k g))
  refine kRel.F ⟨hT, H_fr f (fun c k g => by unfold kTc at g; omega) q2, ⟨by omega, by omega, by omega⟩, q6.eq (ft _ _ (by omega)) (fun a g1 g2 => ft _ _ (by omega)), fun h => (q7 (by omega)).fr q1 f (fun c k g => by unfold kTc at g; unfold dBa dBc dBp dBf; omega), fun h => ?_⟩
  obtain ⟨OP, OD, CL, S, k⟩ := q8 (by omega)
  refine ⟨OP, OD, CL, S, k.keep (Kc.of hf q1 hT ho) e12 (by have z := ft 262 0 (by omega); have := k.1.2; omega) (fun c k g _ => ft c k (by unfold kYs at g; omega)) (fun k _ _ => ft _ _ (by omega)) (fun c k' g h => ?_) (fun a g1 g2 => (k.2.1.2 a g1 g2).frN ⟨g1, g2⟩ f q1 hT hN (fun c k g1 g2 g => by unfold kTc at g; omega))⟩
  have z : w' c k' = w c k' := ft c k' (fun g2 => g (Or.inr g2))
  rw [z]
  exact k.2.2.2.1 c k' g h
end DV
end
end
-- part dw
section
noncomputable section
/-! the class: every public call keeps what is kept -/
theorem k_226 {d : Nat} (hd : 460 ≤ d) {w : eW} (q : kRel w) (hAl : kAl w) : e_Ok 20 elay kcode eI d 226 (0, [(0, (1, 0))], [], w) (fun r w' => ∃ z : Int, r = [(0, z)] ∧ kRelF w' ∧ km3 w w') := (c_226 (by omega) (q.lk hAl) ).imp (fun r w' h => by obtain ⟨z, h1, rfl⟩ := h; exact ⟨z, h1, q.F, km3.refl _⟩)
theorem k_227 {d : Nat} (hd : 460 ≤ d) {w : eW} (q : kRel w) (hAl : kAl w) {a : Int} (g_a : (-2147483648 ≤ a ∧ a ≤ 2147483647)) {b : Int} (g_b : (-2147483648 ≤ b ∧ b ≤ 2147483647)) : e_Ok 20 elay kcode eI d 227 (0, [(0, (1, 0)), (1, (0, a)), (2, (0, b))], [], w) (fun r w' => ∃ z : Int, r = [(0, z)] ∧ kRelF w' ∧ km3 w w') := (c_227 (by omega) (q.lk hAl) g_a g_b).imp (fun r w' h => by obtain ⟨z, h1, rfl⟩ := h; exact ⟨z, h1, q.F, km3.refl _⟩)
theorem k_228 {d : Nat} (hd : 460 ≤ d) {w : eW} (q : kRel w) (hAl : kAl w) {a : Int} (g_a : (-2147483648 ≤ a ∧ a ≤ 2147483647)) {b : Int} (g_b : (-2147483648 ≤ b ∧ b ≤ 2147483647)) : e_Ok 20 elay kcode eI d 228 (0, [(0, (1, 0)), (1, (0, a)), (2, (0, b))], [], w) (fun r w' => ∃ z : Int, r = [(0, z)] ∧ kRelF w' ∧ km3 w w') := (c_228 (by omega) (q.lk hAl) g_a g_b).imp (fun r w' h => by obtain ⟨z, h1, rfl⟩ := h; exact ⟨z, h1, q.F, km3.refl _⟩)
theorem k_229 {d : Nat} (hd : 460 ≤ d) {w : eW} (q : kRel w) (hAl : kAl w) {a : Int} (g_a : (-2147483648 ≤ a ∧ a ≤ 2147483647)) {b : Int} (g_b : (-2147483648 ≤ b ∧ b ≤ 2147483647)) {c : Int} (g_c : (-2147483648 ≤ c ∧ c ≤ 2147483647)) : e_Ok 20 elay kcode eI d 229 (0, [(0, (1, 0)), (1, (0, a)), (2, (0, b)), (3, (0, c))], [], w) (fun r w' => ∃ z : Int, r = [(0, z)] ∧ kRelF w' ∧ km3 w w') := (c_229 (by omega) (q.lk hAl) g_a g_b g_c).imp (fun r w' h => by obtain ⟨z, h1, rfl⟩ := h; exact ⟨z, h1, q.F, km3.refl _⟩)
theorem k_230 {d : Nat} (hd : 460 ≤ d) {w : eW} (q : kRel w) (hAl : kAl w) {a : Int} (g_a : (-2147483648 ≤ a ∧ a ≤ 2147483647)) {b : Int} (g_b : (-2147483648 ≤ b ∧ b ≤ 2147483647)) : e_Ok 20 elay kcode eI d 230 (0, [(0, (1, 0)), (1, (0, a)), (2, (0, b))], [], w) (fun r w' => ∃ z : Int, r = [(0, z)] ∧ kRelF w' ∧ km3 w w') := (c_230 (by omega) (q.lk hAl) g_a g_b).imp (fun r w' h => by obtain ⟨z, h1, rfl⟩ := h; exact ⟨z, h1, q.F, km3.refl _⟩)
theorem k_231 {d : Nat} (hd : 460 ≤ d) {w : eW} (q : kRel w) (hAl : kAl w) {a : Int} (g_a : (-2147483648 ≤ a ∧ a ≤ 2147483647)) {b : Int} (g_b : (-2147483648 ≤ b ∧ b ≤ 2147483647)) : e_Ok 20 elay kcode eI d 231 (0, [(0, (1, 0)), (1, (0, a)), (2, (0, b))], [], w) (fun r w' => ∃ z : Int, r = [(0, z)] ∧ kRelF w' ∧ km3 w w') := (c_231 (by omega) (q.lk hAl) g_a g_b).imp (fun r w' h => by obtain ⟨z, h1, rfl⟩ := h; exact ⟨z, h1, q.F, km3.refl _⟩)
theorem k_232 {d : Nat} (hd : 460 ≤ d) {w : eW} (q : kRel w) (hAl : kAl w) {a : Int} (g_a : (-2147483648 ≤ a ∧ a ≤ 2147483647)) {b : Int} (g_b : (-2147483648 ≤ b ∧ b ≤ 2147483647)) : e_Ok 20 elay kcode eI d 232 (0, [(0, (1, 0)), (1, (0, a)), (2, (0, b))], [], w) (fun r w' => ∃ z : Int, r = [(0, z)] ∧ kRelF w' ∧ km3 w w') := (c_232 (by omega) (q.lk hAl) g_a g_b).imp (fun r w' h => by obtain ⟨z, h1, rfl⟩ := h; exact ⟨z, h1, q.F, km3.refl _⟩)
theorem k_233 {d : Nat} (hd : 460 ≤ d) {w : eW} (q : kRel w) (hAl : kAl w) {a : Int} (g_a : (-2147483648 ≤ a ∧ a ≤ 2147483647)) {b : Int} (g_b : (-2147483648 ≤ b ∧ b ≤ 2147483647)) : e_Ok 20 elay kcode eI d 233 (0, [(0, (1, 0)), (1, (0, a)), (2, (0, b))], [], w) (fun r w' => ∃ z : Int, r = [(0, z)] ∧ kRelF w' ∧ km3 w w') := (c_233 (by omega) (q.lk hAl) g_a g_b).imp (fun r w' h => by obtain ⟨z, h1, rfl⟩ := h; exact ⟨z, h1, q.F, km3.refl _⟩)
theorem k_234 {d : Nat} (hd : 460 ≤ d) {w : eW} (q : kRel w) (hAl : kAl w) {a : Int} (g_a : (-2147483648 ≤ a ∧ a ≤ 2147483647)) : e_Ok 20 elay kcode eI d 234 (0, [(0, (1, 0)), (1, (0, a))], [], w) (fun r w' => ∃ z : Int, r = [(0, z)] ∧ kRelF w' ∧ km3 w w') := (c_234 (by omega) (q.lk hAl) g_a).imp (fun r w' h => by obtain ⟨z, h1, rfl⟩ := h; exact ⟨z, h1, q.F, km3.refl _⟩)
theorem k_235 {d : Nat} (hd : 460 ≤ d) {w : eW} (q : kRel w) (hAl : kAl w) {a : Int} (g_a : (-2147483648 ≤ a ∧ a ≤ 2147483647)) {b : Int} (g_b : (-2147483648 ≤ b ∧ b ≤ 2147483647)) : e_Ok 20 elay kcode eI d 235 (0, [(0, (1, 0)), (1, (0, a)), (2, (0, b))], [], w) (fun r w' => ∃ z : Int, r = [(0, z)] ∧ kRelF w' ∧ km3 w w') := (c_235 (by omega) (q.lk hAl) g_a g_b).imp (fun r w' h => by obtain ⟨z, h1, rfl⟩ := h; exact ⟨z, h1, q.F, km3.refl _⟩)
theorem k_236 {d : Nat} (hd : 460 ≤ d) {w : eW} (q : kRel w) (hAl : kAl w) {a : Int} (g_a : (-2147483648 ≤ a ∧ a ≤ 2147483647)) : e_Ok 20 elay kcode eI d 236 (0, [(0, (1, 0)), (1, (0, a))], [], w) (fun r w' => ∃ z : Int, r = [(0, z)] ∧ kRelF w' ∧ km3 w w') := (c_236 (by omega) (q.lk hAl) g_a).imp (fun r w' h => by obtain ⟨z, h1, rfl⟩ := h; exact ⟨z, h1, q.F, km3.refl _⟩)
theorem k_237 {d : Nat} (hd : 460 ≤ d) {w : eW} (q : kRel w) (hAl : kAl w) : e_Ok 20 elay kcode eI d 237 (0, [(0, (1, 0))], [], w) (fun r w' => ∃ z : Int, r = [(0, z)] ∧ kRelF w' ∧ km3 w w') := (c_237 (by omega) (q.lk hAl) ).imp (fun r w' h => by obtain ⟨z, h1, rfl⟩ := h; exact ⟨z, h1, q.F, km3.refl _⟩)
theorem k_238 {d : Nat} (hd : 460 ≤ d) {w : eW} (q : kRel w) (hAl : kAl w) {a : Int} (g_a : (-2147483648 ≤ a ∧ a ≤ 2147483647)) {b : Int} (g_b : (-2147483648 ≤ b ∧ b ≤ 2147483647)) : e_Ok 20 elay kcode eI d 238 (0, [(0, (1, 0)), (1, (0, a)), (2, (0, b))], [], w) (fun r w' => ∃ z : Int, r = [(0, z)] ∧ kRelF w' ∧ km3 w w') := (c_238 (by omega) (q.lk hAl) g_a g_b).imp (fun r w' h => by obtain ⟨z, h1, rfl⟩ := h; exact ⟨z, h1, q.F, km3.refl _⟩)
theorem k_240 {d : Nat} (hd : 460 ≤ d) {w : eW} (q : kRel w) (hAl : kAl w) {a : Int} (g_a : (-2147483648 ≤ a ∧ a ≤ 2147483647)) : e_Ok 20 elay kcode eI d 240 (0, [(0, (1, 0)), (1, (0, a))], [], w) (fun r w' => ∃ z : Int, r = [(0, z)] ∧ kRelF w' ∧ km3 w w') := (c_240 (by omega) (q.lk hAl) g_a).imp (fun r w' h => by obtain ⟨z, h1, rfl⟩ := h; exact ⟨z, h1, q.F, km3.refl _⟩)
theorem k_241 {d : Nat} (hd : 460 ≤ d) {w : eW} (q : kRel w) (hAl : kAl w) {a : Int} (g_a : (-2147483648 ≤ a ∧ a ≤ 2147483647)) : e_Ok 20 elay kcode eI d 241 (0, [(0, (1, 0)), (1, (0, a))], [], w) (fun r w' => ∃ z : Int, r = [(0, z)] ∧ kRelF w' ∧ km3 w w') := (c_241 (by omega) (q.lk hAl) g_a).imp (fun r w' h => by obtain ⟨z, h1, rfl⟩ := h; exact ⟨z, h1, q.F, km3.refl _⟩)
theorem k_211 {d : Nat} (hd : 460 ≤ d) {w : eW} (q : kRel w) (hAl : kAl w) {a : Int} (g_a : (-2147483648 ≤ a ∧ a ≤ 2147483647)) : e_Ok 20 elay kcode eI d 211 (0, [(0, (1, 0)), (1, (0, a))], [], w) (fun r w' => ∃ z : Int, r = [(0, z)] ∧ kRelF w' ∧ km3 w w') := (c_211 (by omega) (q.lk hAl) g_a).imp (fun r w' h => by obtain ⟨z, h1, rfl⟩ := h; exact ⟨z, h1, q.F, km3.refl _⟩)
theorem k_239 {d : Nat} (hd : 460 ≤ d) {w : eW} (q : kRel w) (hAl : kAl w) {a : Int} (g_a : (-2147483648 ≤ a ∧ a ≤ 2147483647)) {b : Int} (g_b : (-2147483648 ≤ b ∧ b ≤ 2147483647)) : e_Ok 20 elay kcode eI d 239 (0, [(0, (1, 0)), (1, (0, a)), (2, (0, b))], [], w) (fun r w' => ∃ z : Int, r = [(0, z)] ∧ kRelF w' ∧ km3 w w') := (e_Ok.out kAlk (c_239 (by omega) (q.lk hAl) g_a g_b)).imp (fun r w' h => by obtain ⟨⟨z, h1, f, hT⟩, ho⟩ := h; exact ⟨z, h1, q.tc f hT ho, f _ _ (by unfold kTc; omega), f _ _ (by unfold kTc; omega), f _ _ (by unfold kTc; omega)⟩)
theorem k_213 {d : Nat} (hd : 460 ≤ d) {w : eW} (q : kRel w) (hAl : kAl w) {a : Int} (g_a : (-2147483648 ≤ a ∧ a ≤ 2147483647)) {b : Int} (g_b : (-2147483648 ≤ b ∧ b ≤ 2147483647)) : e_Ok 20 elay kcode eI d 213 (0, [(0, (1, 0)), (1, (0, a)), (2, (0, b))], [], w) (fun r w' => ∃ z : Int, r = [(0, z)] ∧ kRelF w' ∧ km3 w w') := (c_213 (by omega) q.1 q.2.2.1.1 q.hC q.2.2.2.2.2 g_a g_b).imp (fun r w' h => by obtain ⟨z, h1, hT, ho⟩ := h; exact ⟨z, h1, ho.rel q hT⟩)
theorem k_215 {d : Nat} (hd : 460 ≤ d) {w : eW} (q : kRel w) (hAl : kAl w) {a : Int} (g_a : (-2147483648 ≤ a ∧ a ≤ 2147483647)) {b : Int} (g_b : (-2147483648 ≤ b ∧ b ≤ 2147483647)) : e_Ok 20 elay kcode eI d 215 (0, [(0, (1, 0)), (1, (0, a)), (2, (0, b))], [], w) (fun r w' => ∃ z : Int, r = [(0, z)] ∧ kRelF w' ∧ km3 w w') := (c_215 (by omega) q.1 q.2.2.1.1 q.hC q.2.2.2.2.2 g_a g_b).imp (fun r w' h => by obtain ⟨z, h1, hT, ho⟩ := h; exact ⟨z, h1, ho.rel q hT⟩)
theorem k_216 {d : Nat} (hd : 460 ≤ d) {w : eW} (q : kRel w) (hAl : kAl w) {a : Int} (g_a : (-2147483648 ≤ a ∧ a ≤ 2147483647)) {b : Int} (g_b : (-2147483648 ≤ b ∧ b ≤ 2147483647)) {c : Int} (g_c : (0 ≤ c ∧ c ≤ 1)) : e_Ok 20 elay kcode eI d 216 (0, [(0, (1, 0)), (1, (0, a)), (2, (0, b)), (3, (0, c))], [], w) (fun r w' => ∃ z : Int, r = [(0, z)] ∧ kRelF w' ∧ km3 w w') := (c_216 (by omega) q.1 q.2.2.1.1 q.hC q.2.2.2.2.2 g_a g_b g_c).imp (fun r w' h => by obtain ⟨z, h1, hT, ho⟩ := h; exact ⟨z, h1, ho.rel q hT⟩)
theorem k_217 {d : Nat} (hd : 460 ≤ d) {w : eW} (q : kRel w) (hAl : kAl w) {a : Int} (g_a : (-2147483648 ≤ a ∧ a ≤ 2147483647)) {b : Int} (g_b : (0 ≤ b ∧ b ≤ 1)) {c : Int} (g_c : (0 ≤ c ∧ c ≤ 1)) : e_Ok 20 elay kcode eI d 217 (0, [(0, (1, 0)), (1, (0, a)), (2, (0, b)), (3, (0, c))], [], w) (fun r w' => ∃ z : Int, r = [(0, z)] ∧ kRelF w' ∧ km3 w w') := (c_217 (by omega) q.1 q.2.2.1.1 q.hC q.2.2.2.2.2 g_a g_b g_c).imp (fun r w' h => by obtain ⟨z, h1, hT, ho⟩ := h; exact ⟨z, h1, ho.rel q hT⟩)
theorem k_218 {d : Nat} (hd : 460 ≤ d) {w : eW} (q : kRel w) (hAl : kAl w) {a : Int} (g_a : (-2147483648 ≤ a ∧ a ≤ 2147483647)) : e_Ok 20 elay kcode eI d 218 (0, [(0, (1, 0)), (1, (0, a))], [], w) (fun r w' => ∃ z : Int, r = [(0, z)] ∧ kRelF w' ∧ km3 w w') := (c_218 (by omega) q.1 q.2.2.1.1 q.hC q.2.2.2.2.2 g_a).imp (fun r w' h => by obtain ⟨z, h1, hT, ho⟩ := h; exact ⟨z, h1, ho.rel q hT⟩)
theorem k_219 {d : Nat} (hd : 460 ≤ d) {w : eW} (q : kRel w) (hAl : kAl w) {a : Int} (g_a : (-2147483648 ≤ a ∧ a ≤ 2147483647)) : e_Ok 20 elay kcode eI d 219 (0, [(0, (1, 0)), (1, (0, a))], [], w) (fun r w' => ∃ z : Int, r = [(0, z)] ∧ kRelF w' ∧ km3 w w') := (c_219 (by omega) q.1 q.2.2.1.1 q.hC q.2.2.2.2.2 g_a).imp (fun r w' h => by obtain ⟨z, h1, hT, ho⟩ := h; exact ⟨z, h1, ho.rel q hT⟩)
theorem k_220 {d : Nat} (hd : 460 ≤ d) {w : eW} (q : kRel w) (hAl : kAl w) {a : Int} (g_a : (-2147483648 ≤ a ∧ a ≤ 2147483647)) : e_Ok 20 elay kcode eI d 220 (0, [(0, (1, 0)), (1, (0, a))], [], w) (fun r w' => ∃ z : Int, r = [(0, z)] ∧ kRelF w' ∧ km3 w w') := (c_220 (by omega) q.1 q.2.2.1.1 q.hC q.2.2.2.2.2 g_a).imp (fun r w' h => by obtain ⟨z, h1, hT, ho⟩ := h; exact ⟨z, h1, ho.rel q hT⟩)
theorem k_221 {d : Nat} (hd : 460 ≤ d) {w : eW} (q : kRel w) (hAl : kAl w) {a : Int} (g_a : (-2147483648 ≤ a ∧ a ≤ 2147483647)) {b : Int} (g_b : (-2147483648 ≤ b ∧ b ≤ 2147483647)) {c : Int} (g_c : (-2147483648 ≤ c ∧ c ≤ 2147483647)) : e_Ok 20 elay kcode eI d 221 (0, [(0, (1, 0)), (1, (0, a)), (2, (0, b)), (3, (0, c))], [], w) (fun r w' => ∃ z : Int, r = [(0, z)] ∧ kRelF w' ∧ km3 w w') := (c_221 (by omega) q.1 q.2.2.1.1 q.hC q.2.2.2.2.2 g_a g_b g_c).imp (fun r w' h => by obtain ⟨z, h1, hT, ho⟩ := h; exact ⟨z, h1, ho.rel q hT⟩)
theorem k_222 {d : Nat} (hd : 460 ≤ d) {w : eW} (q : kRel w) (hAl : kAl w) {a : Int} (g_a : (-2147483648 ≤ a ∧ a ≤ 2147483647)) {b : Int} (g_b : (-2147483648 ≤ b ∧ b ≤ 2147483647)) : e_Ok 20 elay kcode eI d 222 (0, [(0, (1, 0)), (1, (0, a)), (2, (0, b))], [], w) (fun r w' => ∃ z : Int, r = [(0, z)] ∧ kRelF w' ∧ km3 w w') := (c_222 (by omega) q.1 q.2.2.1.1 q.hC q.2.2.2.2.2 g_a g_b).imp (fun r w' h => by obtain ⟨z, h1, hT, ho⟩ := h; exact ⟨z, h1, ho.rel q hT⟩)
theorem k_224 {d : Nat} (hd : 460 ≤ d) {w : eW} (q : kRel w) (hAl : kAl w) {a : Int} (g_a : (-2147483648 ≤ a ∧ a ≤ 2147483647)) : e_Ok 20 elay kcode eI d 224 (0, [(0, (1, 0)), (1, (0, a))], [], w) (fun r w' => ∃ z : Int, r = [(0, z)] ∧ kRelF w' ∧ km3 w w') := (c_224 (by omega) q.1 q.2.2.1.1 q.hC q.2.2.2.2.2 g_a).imp (fun r w' h => by obtain ⟨z, h1, hT, ho⟩ := h; exact ⟨z, h1, ho.rel q hT⟩)
theorem k_214 {d : Nat} (hd : 460 ≤ d) {w : eW} (q : kRel w) (hAl : kAl w) {n : Int} (g_n : (-2147483648 ≤ n ∧ n ≤ 2147483647)) : e_Ok 20 elay kcode eI d 214 (0, [(0, (1, 0)), (1, (0, n))], [], w) (fun r w' => ∃ z : Int, r = [(0, z)] ∧ kRelF w' ∧ km3 w w') := (c_214 (by omega) q.1 q.2.2.1.1 q.hC q.2.2.2.2.2 g_n q.2.2.1.2.1).imp (fun r w' h => by obtain ⟨z, h1, hT, ho⟩ := h; exact ⟨z, h1, ho.rel q hT⟩)
theorem k_225 {d : Nat} (hd : 460 ≤ d) {w : eW} (q : kRel w) (hAl : kAl w) {n : Int} (g_n : (-2147483648 ≤ n ∧ n ≤ 2147483647)) : e_Ok 20 elay kcode eI d 225 (0, [(0, (1, 0)), (1, (0, n))], [], w) (fun r w' => ∃ z : Int, r = [(0, z)] ∧ kRelF w' ∧ km3 w w') := (c_225 (by omega) q.1 q.2.2.1.1 q.hC q.2.2.2.2.2 g_n q.2.2.1.2.1).imp (fun r w' h => by obtain ⟨z, h1, hT, ho⟩ := h; exact ⟨z, h1, ho.rel q hT⟩)
theorem k_223 {d : Nat} (hd : 460 ≤ d) {w : eW} (q : kRel w) (hAl : kAl w) {a : Int} (g_a : (-2147483648 ≤ a ∧ a ≤ 2147483647)) {n : Int} (g_n : (-2147483648 ≤ n ∧ n ≤ 2147483647)) {e : Int} (g_e : (-2147483648 ≤ e ∧ e ≤ 2147483647)) : e_Ok 20 elay kcode eI d 223 (0, [(0, (1, 0)), (1, (0, a)), (2, (0, n)), (3, (0, e))], [], w) (fun r w' => ∃ z : Int, r = [(0, z)] ∧ kRelF w' ∧ km3 w w') := (c_223 (by omega) q.1 q.2.2.1.1 q.hC q.2.2.2.2.2 g_a g_n g_e rfl rfl q.p62).imp (fun r w' h => by obtain ⟨z, h1, hT, ho⟩ := h; exact ⟨z, h1, ho.rel q hT⟩)
theorem k_197 {d : Nat} (hd : 460 ≤ d) {w : eW} (q : kRel w) (hAl : kAl w) {a : Int} (g_a : (-2147483648 ≤ a ∧ a ≤ 2147483647)) {b : Int} (g_b : (-2147483648 ≤ b ∧ b ≤ 2147483647)) {c : Int} (g_c : (-2147483648 ≤ c ∧ c ≤ 2147483647)) : e_Ok 20 elay kcode eI d 197 (0, [(0, (1, 0)), (1, (0, a)), (2, (0, b)), (3, (0, c))], [], w) (fun r w' => ∃ z : Int, r = [(0, z)] ∧ kRelF w' ∧ km3 w w') := (c_197 (by omega) q.1 q.2.2.1.1 g_a g_b g_c).imp (fun r w' h => by
  have hw0 := e_Has.get q.1 (c := 0) (k := 11) (lo := 0) (hi := 4) rfl (by decide)
  obtain ⟨z, h1, hT, h2⟩ := h
  rcases h2 with rfl | ⟨h0, f⟩
  · exact ⟨z, h1, q.F, km3.refl _⟩
  · have kb := q.2.2.2.2.1 h0
    obtain ⟨k1, k2, k3, k4⟩ := q.bl hT h0 f (fun c k g => by unfold kAs at g; omega) (kb.fr q.1 f (fun c k g => by unfold kAs at g; unfold dBa dBc dBp dBf; omega))
    exact ⟨z, h1, k1, k2, k3, k4 (by unfold kAs; omega)⟩)
theorem k_198 {d : Nat} (hd : 460 ≤ d) {w : eW} (q : kRel w) (hAl : kAl w) {a : Int} (g_a : (-2147483648 ≤ a ∧ a ≤ 2147483647)) {b : Int} (g_b : (-2147483648 ≤ b ∧ b ≤ 2147483647)) {c : Int} (g_c : (-2147483648 ≤ c ∧ c ≤ 2147483647)) {e : Int} (g_e : (-2147483648 ≤ e ∧ e ≤ 2147483647)) : e_Ok 20 elay kcode eI d 198 (0, [(0, (1, 0)), (1, (0, a)), (2, (0, b)), (3, (0, c)), (4, (0, e))], [], w) (fun r w' => ∃ z : Int, r = [(0, z)] ∧ kRelF w' ∧ km3 w w') := (c_198 (by omega) q.1 q.2.2.1.1 g_a g_b g_c g_e).imp (fun r w' h => by
  have hw0 := e_Has.get q.1 (c := 0) (k := 11) (lo := 0) (hi := 4) rfl (by decide)
  obtain ⟨z, h1, hT, h2⟩ := h
  rcases h2 with rfl | ⟨h0, f⟩
  · exact ⟨z, h1, q.F, km3.refl _⟩
  · have kb := q.2.2.2.2.1 h0
    obtain ⟨k1, k2, k3, k4⟩ := q.bl hT h0 f (fun c k g => by unfold kAs at g; omega) (kb.fr q.1 f (fun c k g => by unfold kAs at g; unfold dBa dBc dBp dBf; omega))
    exact ⟨z, h1, k1, k2, k3, k4 (by unfold kAs; omega)⟩)
theorem k_205 {d : Nat} (hd : 460 ≤ d) {w : eW} (q : kRel w) (hAl : kAl w) {a : Int} (g_a : (-2147483648 ≤ a ∧ a ≤ 2147483647)) {b : Int} (g_b : (-2147483648 ≤ b ∧ b ≤ 2147483647)) {c : Int} (g_c : (-2147483648 ≤ c ∧ c ≤ 2147483647)) {e : Int} (g_e : (-2147483648 ≤ e ∧ e ≤ 2147483647)) {g : Int} (g_g : (-2147483648 ≤ g ∧ g ≤ 2147483647)) : e_Ok 20 elay kcode eI d 205 (0, [(0, (1, 0)), (1, (0, a)), (2, (0, b)), (3, (0, c)), (4, (0, e)), (5, (0, g))], [], w) (fun r w' => ∃ z : Int, r = [(0, z)] ∧ kRelF w' ∧ km3 w w') := (c_205 (by omega) q.1 q.2.2.1.1 g_a g_b g_c g_e g_g).imp (fun r w' h => by
  have hw0 := e_Has.get q.1 (c := 0) (k := 11) (lo := 0) (hi := 4) rfl (by decide)
  obtain ⟨z, h1, hT, h2⟩ := h
  rcases h2 with rfl | ⟨h0, f⟩
  · exact ⟨z, h1, q.F, km3.refl _⟩
  · have kb := q.2.2.2.2.1 h0
    obtain ⟨k1, k2, k3, k4⟩ := q.bl hT h0 f (fun c k g => by unfold kAs at g; omega) (kb.fr q.1 f (fun c k g => by unfold kAs at g; unfold dBa dBc dBp dBf; omega))
    exact ⟨z, h1, k1, k2, k3, k4 (by unfold kAs; omega)⟩)
theorem k_201 {d : Nat} (hd : 460 ≤ d) {w : eW} (q : kRel w) (hAl : kAl w) {a : Int} (g_a : (-2147483648 ≤ a ∧ a ≤ 2147483647)) {b : Int} (g_b : (-2147483648 ≤ b ∧ b ≤ 2147483647)) : e_Ok 20 elay kcode eI d 201 (0, [(0, (1, 0)), (1, (0, a)), (2, (0, b))], [], w) (fun r w' => ∃ z : Int, r = [(0, z)] ∧ kRelF w' ∧ km3 w w') := (c_201 (by omega) q.1 q.2.2.1.1 g_a g_b).imp (fun r w' h => by
  have hw0 := e_Has.get q.1 (c := 0) (k := 11) (lo := 0) (hi := 4) rfl (by decide)
  obtain ⟨z, h1, hT, h2⟩ := h
  rcases h2 with rfl | ⟨h0, f⟩
  · exact ⟨z, h1, q.F, km3.refl _⟩
  · have kb := q.2.2.2.2.1 h0
    obtain ⟨k1, k2, k3, k4⟩ := q.bl hT h0 f (fun c k g => by unfold kBd at g; omega) (kb.fr q.1 f (fun c k g => by unfold kBd at g; unfold dBa dBc dBp dBf; omega))
    exact ⟨z, h1, k1, k2, k3, k4 (by unfold kBd; omega)⟩)
theorem k_202 {d : Nat} (hd : 460 ≤ d) {w : eW} (q : kRel w) (hAl : kAl w) {a : Int} (g_a : (-2147483648 ≤ a ∧ a ≤ 2147483647)) {b : Int} (g_b : (-2147483648 ≤ b ∧ b ≤ 2147483647)) {c : Int} (g_c : (-2147483648 ≤ c ∧ c ≤ 2147483647)) {e : Int} (g_e : (-2147483648 ≤ e ∧ e ≤ 2147483647)) : e_Ok 20 elay kcode eI d 202 (0, [(0, (1, 0)), (1, (0, a)), (2, (0, b)), (3, (0, c)), (4, (0, e))], [], w) (fun r w' => ∃ z : Int, r = [(0, z)] ∧ kRelF w' ∧ km3 w w') := (c_202 (by omega) q.1 q.2.2.1.1 g_a g_b g_c g_e).imp (fun r w' h => by
  have hw0 := e_Has.get q.1 (c := 0) (k := 11) (lo := 0) (hi := 4) rfl (by decide)
  obtain ⟨z, h1, hT, h2⟩ := h
  rcases h2 with rfl | ⟨h0, f⟩
  · exact ⟨z, h1, q.F, km3.refl _⟩
  · have kb := q.2.2.2.2.1 h0
    obtain ⟨k1, k2, k3, k4⟩ := q.bl hT h0 f (fun c k g => by unfold kBs at g; omega) (kb.fr q.1 f (fun c k g => by unfold kBs at g; unfold dBa dBc dBp dBf; omega))
    exact ⟨z, h1, k1, k2, k3, k4 (by unfold kBs; omega)⟩)
theorem k_206 {d : Nat} (hd : 460 ≤ d) {w : eW} (q : kRel w) (hAl : kAl w) {a : Int} (g_a : (-2147483648 ≤ a ∧ a ≤ 2147483647)) {b : Int} (g_b : (-2147483648 ≤ b ∧ b ≤ 2147483647)) : e_Ok 20 elay kcode eI d 206 (0, [(0, (1, 0)), (1, (0, a)), (2, (0, b))], [], w) (fun r w' => ∃ z : Int, r = [(0, z)] ∧ kRelF w' ∧ km3 w w') := (c_206 (by omega) q.1 q.2.2.1.1 g_a g_b).imp (fun r w' h => by
  have hw0 := e_Has.get q.1 (c := 0) (k := 11) (lo := 0) (hi := 4) rfl (by decide)
  obtain ⟨z, h1, hT, h2⟩ := h
  rcases h2 with rfl | ⟨h0, f⟩
  · exact ⟨z, h1, q.F, km3.refl _⟩
  · have kb := q.2.2.2.2.1 h0
    obtain ⟨k1, k2, k3, k4⟩ := q.bl hT h0 f (fun c k g => by unfold kBm0 at g; omega) (kb.fr q.1 f (fun c k g => by unfold kBm0 at g; unfold dBa dBc dBp dBf; omega))
    exact ⟨z, h1, k1, k2, k3, k4 (by unfold kBm0; omega)⟩)
theorem k_207 {d : Nat} (hd : 460 ≤ d) {w : eW} (q : kRel w) (hAl : kAl w) {a : Int} (g_a : (-2147483648 ≤ a ∧ a ≤ 2147483647)) : e_Ok 20 elay kcode eI d 207 (0, [(0, (1, 0)), (1, (0, a))], [], w) (fun r w' => ∃ z : Int, r = [(0, z)] ∧ kRelF w' ∧ km3 w w') := (c_207 (by omega) q.1 q.2.2.1.1 g_a).imp (fun r w' h => by
  have hw0 := e_Has.get q.1 (c := 0) (k := 11) (lo := 0) (hi := 4) rfl (by decide)
  obtain ⟨z, h1, hT, h2⟩ := h
  rcases h2 with rfl | ⟨h0, f⟩
  · exact ⟨z, h1, q.F, km3.refl _⟩
  · have kb := q.2.2.2.2.1 h0
    obtain ⟨k1, k2, k3, k4⟩ := q.bl hT h0 f (fun c k g => by unfold kBi at g; omega) (kb.fr q.1 f (fun c k g => by unfold kBi at g; unfold dBa dBc dBp dBf; omega))
    exact ⟨z, h1, k1, k2, k3, k4 (by unfold kBi; omega)⟩)
theorem k_208 {d : Nat} (hd : 460 ≤ d) {w : eW} (q : kRel w) (hAl : kAl w) {a : Int} (g_a : (-2147483648 ≤ a ∧ a ≤ 2147483647)) {b : Int} (g_b : (0 ≤ b ∧ b ≤ 1)) : e_Ok 20 elay kcode eI d 208 (0, [(0, (1, 0)), (1, (0, a)), (2, (0, b))], [], w) (fun r w' => ∃ z : Int, r = [(0, z)] ∧ kRelF w' ∧ km3 w w') := (c_208 (by omega) q.1 q.2.2.1.1 g_a g_b).imp (fun r w' h => by
  have hw0 := e_Has.get q.1 (c := 0) (k := 11) (lo := 0) (hi := 4) rfl (by decide)
  obtain ⟨z, h1, hT, h2⟩ := h
  rcases h2 with rfl | ⟨h0, f⟩
  · exact ⟨z, h1, q.F, km3.refl _⟩
  · have kb := q.2.2.2.2.1 h0
    obtain ⟨k1, k2, k3, k4⟩ := q.bl hT h0 f (fun c k g => by unfold kBp at g; omega) (kb.fr q.1 f (fun c k g => by unfold kBp at g; unfold dBa dBc dBp dBf; omega))
    exact ⟨z, h1, k1, k2, k3, k4 (by unfold kBp; omega)⟩)
theorem k_196 {d : Nat} (hd : 460 ≤ d) {w : eW} (q : kRel w) (hAl : kAl w) {a : Int} (g_a : (-2147483648 ≤ a ∧ a ≤ 2147483647)) {b : Int} (g_b : (-2147483648 ≤ b ∧ b ≤ 2147483647)) {c : Int} (g_c : (-2147483648 ≤ c ∧ c ≤ 2147483647)) : e_Ok 20 elay kcode eI d 196 (0, [(0, (1, 0)), (1, (0, a)), (2, (0, b)), (3, (0, c))], [], w) (fun r w' => ∃ z : Int, r = [(0, z)] ∧ kRelF w' ∧ km3 w w') := (c_196_r (by omega) q.1 q.2.2.1.1 g_a g_b g_c).imp (fun r w' h => by
  have hw0 := e_Has.get q.1 (c := 0) (k := 11) (lo := 0) (hi := 4) rfl (by decide)
  obtain ⟨z, h1, hT, h2⟩ := h
  rcases h2 with rfl | ⟨h0, f, X1, X2⟩
  · exact ⟨z, h1, q.F, km3.refl _⟩
  · have kb := q.2.2.2.2.1 h0
    have hjn := kn_joints q.1 (a := a) (by omega)
    obtain ⟨k1, k2, k3, k4⟩ := q.bl hT h0 f (fun c k g => by unfold kBr at g; omega) (kb.fr q.1 f (fun c k g => by unfold kBr at g; unfold dBa dBc dBp dBf; omega))
    exact ⟨z, h1, k1, k2, k3, k4 (by unfold kBr; omega)⟩)
theorem k_199 {d : Nat} (hd : 460 ≤ d) {w : eW} (q : kRel w) (hAl : kAl w) {a : Int} (g_a : (-2147483648 ≤ a ∧ a ≤ 2147483647)) {b : Int} (g_b : (-2147483648 ≤ b ∧ b ≤ 2147483647)) {c : Int} (g_c : (-2147483648 ≤ c ∧ c ≤ 2147483647)) : e_Ok 20 elay kcode eI d 199 (0, [(0, (1, 0)), (1, (0, a)), (2, (0, b)), (3, (0, c))], [], w) (fun r w' => ∃ z : Int, r = [(0, z)] ∧ kRelF w' ∧ km3 w w') := (c_199_r (by omega) q.1 q.2.2.1.1 g_a g_b g_c).imp (fun r w' h => by
  have hw0 := e_Has.get q.1 (c := 0) (k := 11) (lo := 0) (hi := 4) rfl (by decide)
  obtain ⟨z, h1, hT, h2⟩ := h
  rcases h2 with rfl | ⟨h0, f, X1⟩
  · exact ⟨z, h1, q.F, km3.refl _⟩
  · have kb := q.2.2.2.2.1 h0
    have hjn := kn_joints q.1 (a := a) (by omega)
    obtain ⟨k1, k2, k3, k4⟩ := q.bl hT h0 f (fun c k g => by unfold kSd at g; omega) (kb.fr q.1 f (fun c k g => by unfold kSd at g; unfold dBa dBc dBp dBf; omega))
    exact ⟨z, h1, k1, k2, k3, k4 (by unfold kSd; omega)⟩)
theorem k_195 {d : Nat} (hd : 460 ≤ d) {w : eW} (q : kRel w) (hAl : kAl w) {a : Int} (g_a : (-2147483648 ≤ a ∧ a ≤ 2147483647)) {b : Int} (g_b : (-2147483648 ≤ b ∧ b ≤ 2147483647)) {c : Int} (g_c : (-2147483648 ≤ c ∧ c ≤ 2147483647)) {e : Int} (g_e : (-2147483648 ≤ e ∧ e ≤ 2147483647)) : e_Ok 20 elay kcode eI d 195 (0, [(0, (1, 0)), (1, (0, a)), (2, (0, b)), (3, (0, c)), (4, (0, e))], [], w) (fun r w' => ∃ z : Int, r = [(0, z)] ∧ kRelF w' ∧ km3 w w') := (c_195 (by omega) q.1 q.2.2.1.1 g_a g_b g_c g_e).imp (fun r w' h => by
  have hw0 := e_Has.get q.1 (c := 0) (k := 11) (lo := 0) (hi := 4) rfl (by decide)
  obtain ⟨z, h1, hT, h2⟩ := h
  rcases h2 with rfl | ⟨h0, f, X1, X2, X3⟩
  · exact ⟨z, h1, q.F, km3.refl _⟩
  · have kb := q.2.2.2.2.1 h0
    have hjn := kn_joints q.1 (a := a) (by omega)
    obtain ⟨k1, k2, k3, k4⟩ := q.bl hT h0 f (fun c k g => by unfold kBj at g; omega) (kb.pace q.1 f X1 X2 X3)
    exact ⟨z, h1, k1, k2, k3, k4 (by unfold kBj; omega)⟩)
theorem k_200 {d : Nat} (hd : 460 ≤ d) {w : eW} (q : kRel w) (hAl : kAl w) {a : Int} (g_a : (-2147483648 ≤ a ∧ a ≤ 2147483647)) {b : Int} (g_b : (-2147483648 ≤ b ∧ b ≤ 2147483647)) {c : Int} (g_c : (-2147483648 ≤ c ∧ c ≤ 2147483647)) {e : Int} (g_e : (-2147483648 ≤ e ∧ e ≤ 2147483647)) {g : Int} (g_g : (-2147483648 ≤ g ∧ g ≤ 2147483647)) : e_Ok 20 elay kcode eI d 200 (0, [(0, (1, 0)), (1, (0, a)), (2, (0, b)), (3, (0, c)), (4, (0, e)), (5, (0, g))], [], w) (fun r w' => ∃ z : Int, r = [(0, z)] ∧ kRelF w' ∧ km3 w w') := (c_200 (by omega) q.1 q.2.2.1.1 g_a g_b g_c g_e g_g).imp (fun r w' h => by
  have hw0 := e_Has.get q.1 (c := 0) (k := 11) (lo := 0) (hi := 4) rfl (by decide)
  obtain ⟨z, h1, hT, h2⟩ := h
  rcases h2 with rfl | ⟨h0, f, X1, X2, X3, X4⟩
  · exact ⟨z, h1, q.F, km3.refl _⟩
  · have kb := q.2.2.2.2.1 h0
    obtain ⟨k1, k2, k3, k4⟩ := q.bl hT h0 f (fun c k g => by unfold kAb at g; omega) (kb.belt q.1 f X1 X2 X3 X4)
    exact ⟨z, h1, k1, k2, k3, k4 (by unfold kAb; omega)⟩)
theorem k_194 {d : Nat} (hd : 460 ≤ d) {w : eW} (q : kRel w) (hAl : kAl w) {a : Int} (g_a : (-2147483648 ≤ a ∧ a ≤ 2147483647)) {kd : Int} (g_kd : (-2147483648 ≤ kd ∧ kd ≤ 2147483647)) {lo : Int} (g_lo : (-2147483648 ≤ lo ∧ lo ≤ 2147483647)) {hi : Int} (g_hi : (-2147483648 ≤ hi ∧ hi ≤ 2147483647)) {ln : Int} (g_ln : (-2147483648 ≤ ln ∧ ln ≤ 2147483647)) : e_Ok 20 elay kcode eI d 194 (0, [(0, (1, 0)), (1, (0, a)), (2, (0, kd)), (3, (0, lo)), (4, (0, hi)), (5, (0, ln))], [], w) (fun r w' => ∃ z : Int, r = [(0, z)] ∧ kRelF w' ∧ km3 w w') := (c_194 (by omega) q.1 q.2.2.1.1 q.ak g_a g_kd g_lo g_hi g_ln).imp (fun r w' h => by
  have hw0 := e_Has.get q.1 (c := 0) (k := 11) (lo := 0) (hi := 4) rfl (by decide)
  obtain ⟨z, h1, hT, h2⟩ := h
  rcases h2 with rfl | ⟨h0, f, X1, X2, X3, X4, X5⟩
  · exact ⟨z, h1, q.F, km3.refl _⟩
  · have kb := q.2.2.2.2.1 h0
    have hjn := kn_joints q.1 (a := a) (by omega)
    obtain ⟨k1, k2, k3, k4⟩ := q.bl hT h0 f (fun c k g => by unfold kAj at g; omega) (kb.joint q.1 f rfl X1 X2 X3 X4 X5)
    exact ⟨z, h1, k1, k2, k3, k4 (by unfold kAj; omega)⟩)
theorem k_203 {d : Nat} (hd : 460 ≤ d) {w : eW} (q : kRel w) (hAl : kAl w) {a : Int} (g_a : (-2147483648 ≤ a ∧ a ≤ 2147483647)) {b : Int} (g_b : (-2147483648 ≤ b ∧ b ≤ 2147483647)) {c : Int} (g_c : (-2147483648 ≤ c ∧ c ≤ 2147483647)) : e_Ok 20 elay kcode eI d 203 (0, [(0, (1, 0)), (1, (0, a)), (2, (0, b)), (3, (0, c))], [], w) (fun r w' => ∃ z : Int, r = [(0, z)] ∧ kRelF w' ∧ km3 w w') := (c_203 (by omega) q.1 q.2.2.1.1 (fun h => (q.2.2.2.2.1 h).2.2.2.1.2) g_a g_b g_c).imp (fun r w' h => by
  have hw0 := e_Has.get q.1 (c := 0) (k := 11) (lo := 0) (hi := 4) rfl (by decide)
  obtain ⟨z, h1, hT, h2⟩ := h
  rcases h2 with rfl | ⟨h0, f, X1, X2, X3, X4⟩
  · exact ⟨z, h1, q.F, km3.refl _⟩
  · have kb := q.2.2.2.2.1 h0
    obtain ⟨k1, k2, k3, k4⟩ := q.bl hT h0 f (fun c k g => by unfold kAp at g; omega) (kb.part q.1 f rfl X1 X2 X3 X4)
    exact ⟨z, h1, k1, k2, k3, k4 (by unfold kAp; omega)⟩)
theorem k_204 {d : Nat} (hd : 460 ≤ d) {w : eW} (q : kRel w) (hAl : kAl w) {a : Int} (g_a : (-2147483648 ≤ a ∧ a ≤ 2147483647)) {b : Int} (g_b : (-2147483648 ≤ b ∧ b ≤ 2147483647)) {c : Int} (g_c : (-2147483648 ≤ c ∧ c ≤ 2147483647)) : e_Ok 20 elay kcode eI d 204 (0, [(0, (1, 0)), (1, (0, a)), (2, (0, b)), (3, (0, c))], [], w) (fun r w' => ∃ z : Int, r = [(0, z)] ∧ kRelF w' ∧ km3 w w') := (c_204 (by omega) q.1 q.2.2.1.1 (fun h => (q.2.2.2.2.1 h).2.2.2.1.2) g_a g_b g_c).imp (fun r w' h => by
  have hw0 := e_Has.get q.1 (c := 0) (k := 11) (lo := 0) (hi := 4) rfl (by decide)
  obtain ⟨z, h1, hT, h2⟩ := h
  rcases h2 with rfl | ⟨h0, f, X1, X2, X3, X4⟩
  · exact ⟨z, h1, q.F, km3.refl _⟩
  · have kb := q.2.2.2.2.1 h0
    obtain ⟨k1, k2, k3, k4⟩ := q.bl hT h0 f (fun c k g => by unfold kAp at g; omega) (kb.part q.1 f rfl X1 X2 X3 X4)
    exact ⟨z, h1, k1, k2, k3, k4 (by unfold kAp; omega)⟩)
theorem k_209 {d : Nat} (hd : 460 ≤ d) {w : eW} (q : kRel w) (hAl : kAl w) {a : Int} (g_a : (-2147483648 ≤ a ∧ a ≤ 2147483647)) {b : Int} (g_b : (-2147483648 ≤ b ∧ b ≤ 2147483647)) {c : Int} (g_c : (0 ≤ c ∧ c ≤ 1)) : e_Ok 20 elay kcode eI d 209 (0, [(0, (1, 0)), (1, (0, a)), (2, (0, b)), (3, (0, c))], [], w) (fun r w' => ∃ z : Int, r = [(0, z)] ∧ kRelF w' ∧ km3 w w') := (c_209 (by omega) q.1 q.2.2.1.1 (fun h => (q.2.2.2.2.1 h).2.2.1.2.2) g_a g_b g_c).imp (fun r w' h => by
  have hw0 := e_Has.get q.1 (c := 0) (k := 11) (lo := 0) (hi := 4) rfl (by decide)
  obtain ⟨z, h1, hT, h2⟩ := h
  rcases h2 with rfl | ⟨h0, f, X1⟩
  · exact ⟨z, h1, q.F, km3.refl _⟩
  · have kb := q.2.2.2.2.1 h0
    obtain ⟨k1, k2, k3, k4⟩ := q.bl hT h0 f (fun c k g => by unfold kCn at g; omega) (kb.wire q.1 f X1)
    exact ⟨z, h1, k1, k2, k3, k4 (by unfold kCn; omega)⟩)
theorem k_193 {d : Nat} (hd : 460 ≤ d) {w : eW} (q : kRel w) (hAl : kAl w) {x : Int} (g_x : (-2147483648 ≤ x ∧ x ≤ 2147483647)) {y : Int} (g_y : (-2147483648 ≤ y ∧ y ≤ 2147483647)) {u : Int} (g_u : (-2147483648 ≤ u ∧ u ≤ 2147483647)) {v : Int} (g_v : (-2147483648 ≤ v ∧ v ≤ 2147483647)) : e_Ok 20 elay kcode eI d 193 (0, [(0, (1, 0)), (1, (0, x)), (2, (0, y)), (3, (0, u)), (4, (0, v))], [], w) (fun r w' => ∃ z : Int, r = [(0, z)] ∧ kRelF w' ∧ ((km3 w w' ∧ ¬ ((-8000 ≤ x ∧ x ≤ 8000) ∧ (-8000 ≤ y ∧ y ≤ 8000) ∧ (0 ≤ u ∧ u ≤ 4095) ∧ (0 ≤ v ∧ v ≤ 800) ∧ w 0 13 = 0 ∧ w 0 11 ≤ 3)) ∨ (((-8000 ≤ x ∧ x ≤ 8000) ∧ (-8000 ≤ y ∧ y ≤ 8000) ∧ (0 ≤ u ∧ u ≤ 4095) ∧ (0 ≤ v ∧ v ≤ 800) ∧ w 0 13 = 0 ∧ w 0 11 ≤ 3) ∧ w' 0 13 = w 0 13 ∧ w' 1 0 = w 1 0 ∧ w' 0 11 = w 0 11 + 1))) := by
  have hw0 := e_Has.get q.1 (c := 0) (k := 11) (lo := 0) (hi := 4) rfl (by decide)
  by_cases hn : w 0 11 ≤ 3
  · refine (c_193 (e_dq0 hd rfl) (n := w 0 11) (cd := w (17 * w 0 11 + 86) 7) q.1 q.2.2.1.1 rfl hn rfl (q.hC _ hw0.1 hn) g_x g_y g_u g_v).imp (fun r w' h => ?_)
    obtain ⟨z, h1, hT, h2⟩ := h
    rcases h2 with ⟨rfl, h2⟩ | ⟨h0, f, X0, X1, X2, X3, X4, X5, X6⟩
    · exact ⟨z, h1, q.F, Or.inl ⟨km3.refl _, h2⟩⟩
    · have kb := q.2.2.2.2.1 h0.2.2.2.2.1
      have hcd := q.hC _ hw0.1 hn
      unfold isCd at hcd
      obtain ⟨k1, k2, k3, -⟩ := q.bl hT h0.2.2.2.2.1 f (fun c k g => by unfold kAa kMk at g; omega) (kb.arm q.1 rfl f X0 X2 X3 X4 X5 X6)
      exact ⟨z, h1, k1, Or.inr ⟨h0, k2, k3, X1⟩⟩
  · refine (c_193_4 (e_dq0 hd rfl) q.1 q.2.2.1.1 (by omega) g_x g_y g_u g_v).imp (fun r w' h => ?_)
    obtain ⟨z, h1, rfl⟩ := h
    exact ⟨z, h1, q.F, Or.inl ⟨km3.refl _, fun g => hn g.2.2.2.2.2⟩⟩
theorem k_210 {d : Nat} (hd : 460 ≤ d) {w : eW} (q : kRel w) (hAl : kAl w) {a : Int} (g_a : (-2147483648 ≤ a ∧ a ≤ 2147483647)) : e_Ok 20 elay kcode eI d 210 (0, [(0, (1, 0)), (1, (0, a))], [], w) (fun r w' => ∃ z : Int, r = [(0, z)] ∧ kRelF w' ∧ ((km3 w w' ∧ (w 0 13 = 1 ∨ a < 0 ∨ w 0 11 ≤ a)) ∨ ((w 0 13 = 0 ∧ 0 ≤ a ∧ a < w 0 11) ∧ w' 0 13 = w 0 13 ∧ w' 1 0 = 0 ∧ w' 0 11 = w 0 11))) := (c_210 (by omega) q.1 q.2.1 q.2.2.1.1 rfl q.2.2.2.1.1 g_a q.hC).imp (fun r w' h => by
  have hw0 := e_Has.get q.1 (c := 0) (k := 11) (lo := 0) (hi := 4) rfl (by decide)
  have hcd := q.2.2.2.1.1
  unfold isCd at hcd
  obtain ⟨z, h1, ⟨rfl, h2⟩ | ⟨h0, f, hT, hH, h10, hx⟩⟩ := h
  · exact ⟨z, h1, q.F, Or.inl ⟨km3.refl _, h2⟩⟩
  · have kb := (q.2.2.2.2.1 h0.1).prog q.1 rfl f ⟨h0.2.1, by omega⟩ hx
    have e : ∀ k, w' 0 k = w 0 k := fun k => f _ _ (by unfold kPg kRr; omega)
    have q4 := q.2.2.1
    refine ⟨z, h1, kRel.F ⟨hT, hH, ⟨by rw [e 13]; exact q4.1, by rw [e 12]; exact q4.2.1, (e 14).trans q4.2.2⟩, kb.2.1.cdD, fun _ => kb, fun g => by rw [e 13] at g; omega⟩, Or.inr ⟨h0, e 13, h10, e 11⟩⟩)
theorem k_212 {d : Nat} (hd : 460 ≤ d) {w : eW} (q : kRel w) (hAl : kAl w) : e_Ok 20 elay kcode eI d 212 (0, [(0, (1, 0))], [], w) (fun r w' => ∃ z : Int, r = [(0, z)] ∧ kRelF w' ∧ ((w 0 13 = 1 ∧ km3 w w') ∨ (w 0 13 = 0 ∧ w' 0 13 = 1 ∧ w' 1 0 = w 1 0 ∧ w' 0 11 = w 0 11))) := by
  obtain ⟨OP, OD, CL, hc⟩ : ∃ OP OD CL : Int → Int → Int, w 0 13 = 0 → cfI w OP OD CL := by
    by_cases g : w 0 13 = 0
    · obtain ⟨OP, OD, CL, h⟩ := (q.2.2.2.2.1 g).cf
      exact ⟨OP, OD, CL, fun _ => h⟩
    · exact ⟨fun _ _ => 0, fun _ _ => 0, fun _ _ => 0, fun h => absurd h g⟩
  refine (c_212 (e_dq0 hd rfl) q.1 q.2.2.1.1 hc hAl q.p62).imp (fun r w' h => ?_)
  obtain ⟨z, h1, hT, ⟨h0, rfl⟩ | ⟨h0, f, e13, -, S, hB⟩⟩ := h
  · exact ⟨z, h1, q.F, Or.inl ⟨h0, km3.refl _⟩⟩
  · have nn : ∀ c k, kNo c k → (c ≠ 1 ∧ (c < 5 ∨ 7 < c)) ∧ ¬ (c = 0 ∧ (k = 11 ∨ k = 14)) := fun c k g => by
      rcases g with g | g
      · have := nw_lo g; exact ⟨this.2, fun z => this.1 z.1⟩
      · exact ⟨by omega, by omega⟩
    have n7 : ∀ a, 0 ≤ a → a ≤ 3 → ¬ kNo (17 * a + 86) 7 := fun a g1 g2 g => by
      rcases g with g | g
      · exact nw_a ⟨g1, g2⟩ (by omega) g
      · omega
    have e11 : w' 0 11 = w 0 11 := f _ _ (fun g => (nn _ _ g).2 ⟨rfl, Or.inl rfl⟩)
    have e14 : w' 0 14 = w 0 14 := f _ _ (fun g => (nn _ _ g).2 ⟨rfl, Or.inr rfl⟩)
    have e10 : w' 1 0 = w 1 0 := f _ _ (fun g => (nn _ _ g).1.1 rfl)
    refine ⟨z, h1, kRel.F ⟨hT, H_fr f (fun c k g => (nn c k g).1) q.2.1, ⟨by omega, hB.1.1, e14.trans q.2.2.1.2.2⟩, q.2.2.2.1.eq (f _ _ (fun g => (nn _ _ g).1.1 rfl)) (fun a g1 g2 => f _ _ (n7 a g1 g2)), fun g => by omega, fun _ => ⟨OP, OD, CL, S, hB⟩⟩, Or.inr ⟨h0, e13, e10, e11⟩⟩
theorem k_192 {d : Nat} (hd : 460 ≤ d) {w : eW} (q : kRel w) (hAl : kAl w) : e_Ok 20 elay kcode eI d 192 (0, [(0, (1, 0))], [], w) (fun r w' => ∃ z : Int, r = [(0, z)] ∧ kRelF w' ∧ (w' 0 13 = 0 ∧ w' 1 0 = w 1 0 ∧ w' 0 11 = 0)) := (c_192 (by omega) q.1 q.hC q.2.2.2.1.1 (fun a g1 g2 => (q.2.2.2.1.2.1 a g1 g2).2) q.2.2.2.1.2.2).imp (fun r w' h => by
  obtain ⟨z, h1, f, hT, e11, e12, e13, kb⟩ := h
  have e14 : w' 0 14 = w 0 14 := f _ _ (fun g => by
    rcases g with g | g | g | g | g | g | g | g | g | g | g | g
    · exact (nw_lo g).1 rfl
    all_goals omega)
  have e10 : w' 1 0 = w 1 0 := f _ _ (fun g => (cl_lo g).1 rfl)
  exact ⟨z, h1, kRel.F ⟨hT, H_fr f (fun c k g => cl_lo g) q.2.1, ⟨by omega, by omega, e14.trans q.2.2.1.2.2⟩, kb.2.1.cdD, fun _ => kb, fun g => by omega⟩, e13, e10, e11⟩)
theorem k_190 {d : Nat} (hd : 460 ≤ d) {w : eW} (q : kRel w) (hAl : kAl w) {a : Int} (g_a : (-2147483648 ≤ a ∧ a ≤ 2147483647)) {b : Int} (g_b : (-2147483648 ≤ b ∧ b ≤ 2147483647)) {c : Int} (g_c : (-2147483648 ≤ c ∧ c ≤ 2147483647)) {e : Int} (g_e : (-2147483648 ≤ e ∧ e ≤ 2147483647)) {g : Int} (g_g : (-2147483648 ≤ g ∧ g ≤ 2147483647)) : e_Ok 20 elay kcode eI d 190 (0, [(0, (1, 0)), (1, (0, a)), (2, (0, b)), (3, (0, c)), (4, (0, e)), (5, (0, g))], [], w) (fun r w' => ∃ z : Int, r = [(0, z)] ∧ kRelF w' ∧ ((3980 < w 1 0 ∧ z = -3 ∧ km3 w w') ∨ (w 1 0 ≤ 3980 ∧ z = w 1 0 + 20 ∧ w' 0 13 = w 0 13 ∧ w' 1 0 = w 1 0 + 20 ∧ w' 0 11 = w 0 11))) := by
  have hl := e_Has.get q.2.1 (c := 1) (k := 0) (lo := 0) (hi := 4000) rfl (by decide)
  refine (e_Ok.out kAlk (c_190 (e_dq0 hd rfl) q.1 g_a g_b g_c g_e g_g rfl hl)).imp (fun r w' h => ?_)
  obtain ⟨⟨z, h1, f, hT, h2⟩, ho⟩ := h
  rcases h2 with ⟨h2, h3, rfl⟩ | ⟨h2, h3, h4⟩
  · exact ⟨z, h1, q.F, Or.inl ⟨h2, h3, km3.refl _⟩⟩
  have e13 : w' 0 13 = w 0 13 := f _ _ (by unfold kTp; omega)
  have e11 : w' 0 11 = w 0 11 := f _ _ (by unfold kTp; omega)
  exact ⟨z, h1, q.tp f hT (by omega) ho, Or.inr ⟨h2, h3, e13, h4, e11⟩⟩
theorem k_191 {d : Nat} (hd : 460 ≤ d) {w : eW} (q : kRel w) (hAl : kAl w) {a : Int} (g_a : (-2147483648 ≤ a ∧ a ≤ 2147483647)) : e_Ok 20 elay kcode eI d 191 (0, [(0, (1, 0)), (1, (0, a))], [], w) (fun r w' => ∃ z : Int, r = [(0, z)] ∧ kRelF w' ∧ (((a < 0 ∨ w 1 0 < a) ∧ z = -1 ∧ km3 w w') ∨ ((0 ≤ a ∧ a ≤ w 1 0) ∧ z = w 1 0 - a ∧ w' 0 13 = w 0 13 ∧ w' 1 0 = w 1 0 - a ∧ w' 0 11 = w 0 11))) := by
  have hl := e_Has.get q.2.1 (c := 1) (k := 0) (lo := 0) (hi := 4000) rfl (by decide)
  refine (e_Ok.out kAlk (c_191 (e_dq0 hd rfl) q.1 g_a rfl hl)).imp (fun r w' h => ?_)
  obtain ⟨⟨z, h1, f, hT, h2⟩, ho⟩ := h
  rcases h2 with ⟨h2, h3, rfl⟩ | ⟨h2, h3, h4⟩
  · exact ⟨z, h1, q.F, Or.inl ⟨h2, h3, km3.refl _⟩⟩
  have e13 : w' 0 13 = w 0 13 := f _ _ (by unfold kTp; omega)
  have e11 : w' 0 11 = w 0 11 := f _ _ (by unfold kTp; omega)
  exact ⟨z, h1, q.tp f hT (by omega) ho, Or.inr ⟨h2, h3, e13, h4, e11⟩⟩
end
end
-- part dx
section
noncomputable section
/-! (nothing more is needed here) -/
end
end
-- part dy
section
noncomputable section
/-! (nothing more is needed here either) -/
end
end
